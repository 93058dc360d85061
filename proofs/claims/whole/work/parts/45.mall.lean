/-! the reference foretells what ft says: APPLICATION, all -/
section EM
variable {h0 : Nat → Nat → Int32} {K M A B C SZ R : Nat → Int32} {hl : Nat → Nat → Int64} {nd z NT hf NN : Nat}
variable {N f g k s a b : Nat} {G : List Nat} {D : Int32} {ρ T : Nat} {RW : Nat → Nat → Int32} {S : Nat → Int32} {d n : Nat} {h : Nat → Nat → Int32}
theorem mu_ap {hd m : Nat} {x : Int32} (k2 : K hd = 2) : (if m < nn (SZ (nn (M hd))) ∧ D = 0 then ft_z else ft_s K M A B (ft K M A B C SZ R N) (ap_u R (nn (M hd)) (nn (SZ (nn (M hd)))) m (if m = nn (SZ (nn (M hd))) ∧ D = 0 then 0 else 1)) m k) = ft_s K M A B (ft K M A B C SZ R N) (mu_u K M SZ R hd m D x) m k := by
  have k4 : K hd ≠ 4 := by rw [k2]; decide
  by_cases c : m < nn (SZ (nn (M hd))) ∧ D = 0
  · rw [if_pos c]
    refine (ft_s0 (fun i => ?_) m k).symm
    unfold mu_u
    rw [if_neg k4, if_pos k2, if_pos c.1, if_pos c.2]
  · rw [if_neg c]
    congr 1
    funext i
    unfold mu_u
    rw [if_neg k4, if_pos k2]
    by_cases c1 : m < nn (SZ (nn (M hd)))
    · rw [if_pos c1, if_neg (fun e => c ⟨c1, e⟩)]
      exact if_neg (by omega)
    · rw [if_neg c1]
theorem fm_app (hR : ∀ i, R i ∈ us_codes) (IH : fm_C h0 K M A B C SZ R hl nd z NT NN N) (hzb : z = 2900 * hf) (hf2 : hf < 2) (hNT : NT ≤ 200) (e7 : h0 73 7 = nI hf) (hRm : ∀ i, i < 192 → h0 97 i = uk_c (R i) ∧ h0 98 i = uk_d (R i)) (hnd : nd ≤ 24) (hP : ∀ e, e < nd → ∃ w, SZ e = nI w ∧ w ≤ 4 ∧ h0 90 (24 * hf + e) = nI w) (hrp : ∀ k, k < NN → rp_N K M A B C h0 z k) (w : wf_N K M A B C nd (N + 1) f g k s a b G) (hk : k < NN) (hNN : NN ≤ 2900) (hG : ∀ t ∈ G, t < a) (hb : b ≤ NT) (hD : D ∈ us_dm) (hv : vs_ok (RW ρ) S) (hz : ∀ t, a ≤ t → t < b → RW ρ t = 0) (hr : ρ < T) (hT : T + 2 * g ≤ 140) (hd : 4 * f + 3 ≤ d) (hs : fm_S h0 h T RW S) (hK : K k = 9) :
    ∃ h', am_call tb_P d 60 [.ref 73, .int (nI (200 * ρ)), .int (nI (z + k)), .int D] (pr_S, h, hl) = some (none, (pr_S, h', hl)) ∧ fm_S h0 h' T (fm_u RW ρ (ft_v (RW ρ) (ft_ap K M A B SZ R (ft K M A B C SZ R N) (ap_n K A 4000 k) (ap_e K A 4000 k) k D))) (ft_w S (ft_ap K M A B SZ R (ft K M A B C SZ R N) (ap_n K A 4000 k) (ap_e K A 4000 k) k D)) := by
  have o := wf_ord w
  obtain ⟨m, q, hd0, r1, r2⟩ := wf_ap w (by omega)
  have e := ap_ne r1 (n := 4000) (by omega)
  rw [e.1, e.2]
  cases m with
  | zero => exact absurd hK (r1.1 ▸ r1.2.1)
  | succ m =>
  obtain ⟨f3, c3, p1, p2, p3, p4⟩ := wf_head1 w (by omega) r1
  have op := wf_ord p2
  have IHg := ft_good (SZ := SZ) hR N (K := K) (M := M) (A := A) (B := B) (C := C) (nd := nd)
  have io := rp_iff p2 (hrp hd0 (by omega))
  have h2 : K hd0 = 2 → ∃ e, M hd0 = nI e ∧ e < nd := by
    intro k2
    cases N with
    | zero => exact p2.elim
    | succ N2 =>
      rcases p2 with ⟨x, _⟩ | ⟨x, _⟩ | ⟨x, _, _, e0, x1, x2⟩ | ⟨x, _⟩ | ⟨x, _⟩ | ⟨x, _⟩ | ⟨x, _⟩ | ⟨x, _⟩ | ⟨x, _⟩ | ⟨x, _⟩
      all_goals first | exact absurd (x.symm.trans k2) (by decide) | skip
      exact ⟨e0, x1, x2⟩
  obtain ⟨d, rfl⟩ : ∃ d', d = d' + 3 := ⟨d - 3, by omega⟩
  have sp := fun (h : Nat → Nat → Int32) (T : Nat) (RW : Nat → Nat → Int32) (S : Nat → Int32) (hs : fm_S h0 h T RW S) => ma_spine (K := K) (M := M) (A := A) (B := B) (C := C) (nd := nd) (z := z) (hl := hl) (h := h) (am_call tb_P (d + 2)) hd0 q (nI (200 * ρ)) (nI (z + k)) D hNN (by omega) (fun k hk => by
      have := hrp k hk
      unfold rp_N at this ⊢
      simp only [fm_rd hs (c := 79) (by decide), fm_rd hs (c := 80) (by decide), fm_rd hs (c := 81) (by decide), fm_rd hs (c := 82) (by decide), fm_rd hs (c := 83) (by decide)]
      exact this) (fun k hk hne ⟨_, _, _, _, _, _, _, w⟩ => by
      rw [fm_rd hs (by decide)]
      exact fun e => hne ((rp_iff w (hrp k hk)).1.mp e)) (m + 1) 999999 f g k s a b 0 (N + 1) G r1 w hk (by omega) (by omega)
  have lp := fun (x : Int32) (hx : x ∈ us_codes) (n : Nat) (hn : m + 1 ≤ n) (RW : Nat → Nat → Int32) (S : Nat → Int32) (h : Nat → Nat → Int32) hv hz hs => ma_loop (hl := hl) (x := x) (mt := m + 1) (D := D) (d + 2) (nI (z + k)) hR IH hzb hf2 hNT e7 hRm hnd hP hrp (by omega) hNN h2 io.2.1 io.2.2 io.1 hx (by omega) hG hr hT (m + 1) n f k s b q RW S h (Nat.le_refl _) r1 w hk hb hv hz (by omega) hn hs
  obtain ⟨n', sn, sp1⟩ := sp h T RW S hs
  rw [Nat.zero_add] at sp1
  have go := (fm_rd hs (c := 79) (by decide) (z + hd0))
  have en : am_call tb_P (d + 3) 60 [.ref 73, .int (nI (200 * ρ)), .int (nI (z + k)), .int D] (pr_S, h, hl) = am_fwd (am_call tb_P (d + 2)) (am_run (am_call tb_P (d + 2)) tb_r60_0 n') tb_r60_2 33 [(5, .int (nI (z + hd0))), (4, .int (nI (m + 1))), (0, .ref 73), (1, .int (nI (200 * ρ))), (2, .int (nI (z + k))), (3, .int D)] [] (pr_S, h, hl) := by
    rw [en_60, ht_60_0, ch_60_0]
    exact sp1
  unfold ft_ap
  by_cases k2 : K hd0 = 2
  · rw [if_pos k2, mu_ap (x := 0) k2]
    have g1 : h 79 (z + hd0) = 24 := go.trans (io.2.2.mpr k2)
    obtain ⟨h', r3, s3⟩ := lp 0 us_c0 n' (by omega) RW S h hv hz hs
    refine ⟨h', ?_, s3⟩
    rw [en]
    rw [ht_60_2, ch_60_2]; (try simp +decide (disch := omega) only [ni_bF, nI_clamp, nI_add, pk_mul, dc_ltT, dc_ltF, dc_leT, dc_leF, dc_eqF, dc_neT, dn_eq, dn_ne, dn_lt, dn_ge, si_at, si_c, si_k, ne_eq, not_false_eq_true, not_true_eq_false, ↓reduceIte, v20_ltT, v20_ltF, v20_gtT, v20_gtF, v20_leT, v20_leF, v20_geT, v20_geF, v20_eqT, v20_eqF, v20_add, v20_dda, v20_mul, v20_lum, v20_sub, v20_bad, v20_cl, g1]); rw [sk_60_3_119, ht_60_6, ch_60_3]; (try simp +decide (disch := omega) only [ni_bF, nI_clamp, nI_add, pk_mul, dc_ltT, dc_ltF, dc_leT, dc_leF, dc_eqF, dc_neT, dn_eq, dn_ne, dn_lt, dn_ge, si_at, si_c, si_k, ne_eq, not_false_eq_true, not_true_eq_false, ↓reduceIte, v0_ltT, v0_ltF, v0_gtT, v0_gtF, v0_leT, v0_leF, v0_geT, v0_geF, v0_eqT, v0_eqF, v0_add, v0_dda, v0_mul, v0_lum, v0_sub, v0_bad, v0_cl, v3_ltT, v3_ltF, v3_gtT, v3_gtF, v3_leT, v3_leF, v3_geT, v3_geF, v3_eqT, v3_eqF, v3_add, v3_dda, v3_mul, v3_lum, v3_sub, v3_bad, v3_cl, v24_ltT, v24_ltF, v24_gtT, v24_gtF, v24_leT, v24_leF, v24_geT, v24_geF, v24_eqT, v24_eqF, v24_add, v24_dda, v24_mul, v24_lum, v24_sub, v24_bad, v24_cl, g1]); rw [sk_60_7_154, ht_60_9, ch_60_5]
    exact r3
  rw [if_neg k2]
  by_cases k4 : K hd0 = 4
  · rw [if_pos k4]
    have g1 : h 79 (z + hd0) = 20 := go.trans (io.2.1.mpr k4)
    have p2' := p2
    cases N with
    | zero => exact p2.elim
    | succ N2 =>
    rcases p2' with ⟨x, _⟩ | ⟨x, _⟩ | ⟨x, _⟩ | ⟨x, _⟩ | ⟨x, f', g', j, x1, x2, x3, x4, x5, x6⟩ | ⟨x, _⟩ | ⟨x, _⟩ | ⟨x, _⟩ | ⟨x, _⟩ | ⟨x, _⟩
    all_goals first | exact absurd (x.symm.trans k4) (by decide) | skip
    have o6 := wf_ord x6
    have x6' := wf_up x6
    rw [x3, x4, nn_n (by omega), nn_n (by omega)]
    have hG6 : ∀ t ∈ (a + 1) :: G, t < a + 2 := fun t ht => (List.mem_cons.mp ht).elim (fun e => by omega) (fun e => by have := hG t e; omega)
    obtain ⟨pa, pb, pc, pe⟩ := (hrp hd0 (by omega)).2.2.2.2.1 k4
    rw [x4, nI_add] at pb
    rw [x3, nI_1] at pc
    rw [x3] at pe
    have eD : (if m + 1 = 1 then D else us_hd (nI (m + 1 - 1)) D) ∈ us_dm := by
      split
      · exact hD
      · exact us_dm_h D (by omega)
    have hD' : ∃ D', D' = (if m + 1 = 1 then D else us_hd (nI (m + 1 - 1)) D) := ⟨_, rfl⟩
    obtain ⟨D', eD'⟩ := hD'
    rw [← eD'] at eD ⊢
    have X6 := IHg _ _ _ _ _ _ _ D' x6' (by omega) hG6 (by omega) eD
    have XT := ft_gt (by omega) X6
    have XP : ft_g G (ft_1 (200 + a) 1) := ft_gs1 (by decide)
    have xc := ((X6 (a + 1)).1 (by omega)).1
    obtain ⟨h1, r3, s1⟩ := fm_meet (hl := hl) (d + 1) a 1 (by omega) hs
    have s1' : fm_S h0 h1 T (fm_u RW ρ (ft_v (RW ρ) (ft_1 (200 + a) 1))) (ft_w S (ft_1 (200 + a) 1)) := by
      refine fm_cg s1 (fun r t h1 h2 => ?_) (fun t ht => ?_)
      · unfold fm_u ft_v
        by_cases c : r = ρ
        · rw [if_pos c, c, show ft_1 (200 + a) 1 t = 0 from if_neg (by omega), (us_both_zero _ (hv t h2).1).2]
        · rw [if_neg c]
      · unfold ft_w fi_u ft_1
        by_cases x : t = a
        · rw [if_pos x, if_pos (by omega), x]
        · rw [if_neg x, if_neg (by omega), (us_sn_0 _ (hv t ht).2).1]
    have vP := vs_next hv XP
    have zP : ∀ t, a ≤ t → t < b → ft_v (RW ρ) (ft_1 (200 + a) 1) t = 0 := fun t h3 h4 => ft_vz (hz t h3 h4) XP (by omega) (fun e => by have := hG t e; omega)
    obtain ⟨h3, r4, s3⟩ := fm_call IH x6' (by omega) hNN hG6 (by omega) eD (by rw [fm_at]; exact vP) (fun t h3 h4 => by rw [fm_at]; exact zP t (by omega) (by omega)) hr (by omega) (show 4 * f' + 5 ≤ d + 2 by omega) s1'
    rw [fm_at, fm_uu] at s3
    have za := zP (a + 1) (by omega) (by omega)
    have v6 := vs_next vP X6
    obtain ⟨h4, r5, s4⟩ := fm_take (hl := hl) (ρ := ρ) d (a + 1) (by rw [fm_at]; exact (v6 _ (by omega)).1) hr (by omega) (by omega) s3
    rw [fm_at] at r5
    rw [fm_at, fm_uu] at s4
    rw [ft_va za X6 (by omega)] at r5
    have s4' : fm_S h0 h4 T (fm_u RW ρ (ft_v (RW ρ) (ft_p (ft_1 (200 + a) 1) (ft_t (ft K M A B C SZ R (N2 + 1) j D') (a + 1))))) (ft_w S (ft_p (ft_1 (200 + a) 1) (ft_t (ft K M A B C SZ R (N2 + 1) j D') (a + 1)))) := by
      refine fm_cu s4 (fun t ht => ?_) (fun t ht => ?_)
      · rw [ft_vt za vP ht (by omega)]
        unfold ft_v
        rw [ft_pl ht]
        exact us_both_assoc _ (hv t ht).1 _ ((XP t).1 ht).1 _ ((XT t).1 ht).1
      · rw [ft_wt za X6 ht (by omega)]
        unfold ft_w
        rw [ft_ph]
        exact us_max_assoc _ _ _
    have XPT := ft_gp XP XT
    have hu : ∀ i, (fun i => if i = 0 then ft K M A B C SZ R (N2 + 1) j D' (a + 1) else 20 : Nat → Int32) i ∈ us_codes := by
      intro i
      dsimp only
      split
      · exact xc
      · exact us_c20
    have XY := ft_gsq IHg hu (Nat.le_refl _) w (by omega) hG (by omega) r1
    obtain ⟨h5, r6, s5⟩ := lp (ft K M A B C SZ R (N2 + 1) j D' (a + 1)) xc n' (by omega) _ _ h4 (by rw [fm_at]; exact vs_next hv XPT) (fun t h3 h4 => by rw [fm_at]; exact ft_vz (hz t h3 h4) XPT (by omega) (fun e => by have := hG t e; omega)) s4'
    have eu : mu_u K M SZ R hd0 (m + 1) D (ft K M A B C SZ R (N2 + 1) j D' (a + 1)) = (fun i => if i = 0 then ft K M A B C SZ R (N2 + 1) j D' (a + 1) else 20) := by
      funext i
      unfold mu_u
      rw [if_pos k4]
    rw [eu] at s5
    refine ⟨h5, ?_, fm_two hv XPT XY s5⟩
    rw [en]
    have g2 := (fm_rd hs (c := 83) (by decide) (z + hd0)).trans pe
    have g3 := (fm_rd s1 (c := 80) (by decide) (z + hd0)).trans pb
    have g4 := (fm_rd s3 (c := 81) (by decide) (z + hd0)).trans pc
    by_cases cm : m = 0
    · rw [if_pos (by omega)] at eD'
      rw [eD'] at r4 r5 r6
      rw [ht_60_2, ch_60_2]; (try simp +decide (disch := omega) only [ni_bF, nI_clamp, nI_add, pk_mul, dc_ltT, dc_ltF, dc_leT, dc_leF, dc_eqF, dc_neT, dn_eq, dn_ne, dn_lt, dn_ge, si_at, si_c, si_k, ne_eq, not_false_eq_true, not_true_eq_false, ↓reduceIte, v20_ltT, v20_ltF, v20_gtT, v20_gtF, v20_leT, v20_leF, v20_geT, v20_geF, v20_eqT, v20_eqF, v20_add, v20_dda, v20_mul, v20_lum, v20_sub, v20_bad, v20_cl, g1, g2, g3, g4]); rw [r3, ev_rn, ch_60_4]; (try simp +decide (disch := omega) only [ni_bF, nI_clamp, nI_add, pk_mul, dc_ltT, dc_ltF, dc_leT, dc_leF, dc_eqF, dc_neT, dn_eq, dn_ne, dn_lt, dn_ge, si_at, si_c, si_k, ne_eq, not_false_eq_true, not_true_eq_false, ↓reduceIte, v1_ltT, v1_ltF, v1_gtT, v1_gtF, v1_leT, v1_leF, v1_geT, v1_geF, v1_eqT, v1_eqF, v1_add, v1_dda, v1_mul, v1_lum, v1_sub, v1_bad, v1_cl, g1, g2, g3, g4]); rw [sk_60_3_99, ht_60_5, ch_60_9, r4, ev_rn, ch_60_13]; (try simp +decide (disch := omega) only [ni_bF, nI_clamp, nI_add, pk_mul, dc_ltT, dc_ltF, dc_leT, dc_leF, dc_eqF, dc_neT, dn_eq, dn_ne, dn_lt, dn_ge, si_at, si_c, si_k, ne_eq, not_false_eq_true, not_true_eq_false, ↓reduceIte, g1, g2, g3, g4]); rw [r5, ev_rs, ch_60_16, sk_60_6_154, ht_60_9, ch_60_5]
      exact r6
    · rw [if_neg (by omega)] at eD'
      unfold us_hd at eD'
      by_cases cD : D = 0
      · by_cases c3 : m ≤ 3
        · rw [if_pos ⟨cD, by rw [Nat.add_sub_cancel]; exact li_ngt c3 (by decide)⟩] at eD'
          rw [eD'] at r4 r5 r6
          rw [ht_60_2, ch_60_2]; (try simp +decide (disch := omega) only [ni_bF, nI_clamp, nI_add, pk_mul, dc_ltT, dc_ltF, dc_leT, dc_leF, dc_eqF, dc_neT, dn_eq, dn_ne, dn_lt, dn_ge, si_at, si_c, si_k, ne_eq, not_false_eq_true, not_true_eq_false, ↓reduceIte, v20_ltT, v20_ltF, v20_gtT, v20_gtF, v20_leT, v20_leF, v20_geT, v20_geF, v20_eqT, v20_eqF, v20_add, v20_dda, v20_mul, v20_lum, v20_sub, v20_bad, v20_cl, g1, g2, g3, g4, cD]); rw [r3, ev_rn, ch_60_4]; (try simp +decide (disch := omega) only [ni_bF, nI_clamp, nI_add, pk_mul, dc_ltT, dc_ltF, dc_leT, dc_leF, dc_eqF, dc_neT, dn_eq, dn_ne, dn_lt, dn_ge, si_at, si_c, si_k, ne_eq, not_false_eq_true, not_true_eq_false, ↓reduceIte, v1_ltT, v1_ltF, v1_gtT, v1_gtF, v1_leT, v1_leF, v1_geT, v1_geF, v1_eqT, v1_eqF, v1_add, v1_dda, v1_mul, v1_lum, v1_sub, v1_bad, v1_cl, g1, g2, g3, g4, cD]); rw [ht_60_3, ch_60_8]; (try simp +decide (disch := omega) only [ni_bF, nI_clamp, nI_add, pk_mul, dc_ltT, dc_ltF, dc_leT, dc_leF, dc_eqF, dc_neT, dn_eq, dn_ne, dn_lt, dn_ge, si_at, si_c, si_k, ne_eq, not_false_eq_true, not_true_eq_false, ↓reduceIte, v0_ltT, v0_ltF, v0_gtT, v0_gtF, v0_leT, v0_leF, v0_geT, v0_geF, v0_eqT, v0_eqF, v0_add, v0_dda, v0_mul, v0_lum, v0_sub, v0_bad, v0_cl, v1_ltT, v1_ltF, v1_gtT, v1_gtF, v1_leT, v1_leF, v1_geT, v1_geF, v1_eqT, v1_eqF, v1_add, v1_dda, v1_mul, v1_lum, v1_sub, v1_bad, v1_cl, v3_ltT, v3_ltF, v3_gtT, v3_gtF, v3_leT, v3_leF, v3_geT, v3_geF, v3_eqT, v3_eqF, v3_add, v3_dda, v3_mul, v3_lum, v3_sub, v3_bad, v3_cl, g1, g2, g3, g4, cD]); rw [sk_60_4_99, ht_60_5, ch_60_9, r4, ev_rn, ch_60_13]; (try simp +decide (disch := omega) only [ni_bF, nI_clamp, nI_add, pk_mul, dc_ltT, dc_ltF, dc_leT, dc_leF, dc_eqF, dc_neT, dn_eq, dn_ne, dn_lt, dn_ge, si_at, si_c, si_k, ne_eq, not_false_eq_true, not_true_eq_false, ↓reduceIte, g1, g2, g3, g4, cD]); rw [r5, ev_rs, ch_60_16, sk_60_6_154, ht_60_9, ch_60_5]
          rw [cD] at r6
          exact r6
        · rw [if_neg (fun x => x.2 (by rw [Nat.add_sub_cancel]; exact li_gt (by omega) (by omega)))] at eD'
          rw [eD'] at r4 r5 r6
          rw [ht_60_2, ch_60_2]; (try simp +decide (disch := omega) only [ni_bF, nI_clamp, nI_add, pk_mul, dc_ltT, dc_ltF, dc_leT, dc_leF, dc_eqF, dc_neT, dn_eq, dn_ne, dn_lt, dn_ge, si_at, si_c, si_k, ne_eq, not_false_eq_true, not_true_eq_false, ↓reduceIte, v20_ltT, v20_ltF, v20_gtT, v20_gtF, v20_leT, v20_leF, v20_geT, v20_geF, v20_eqT, v20_eqF, v20_add, v20_dda, v20_mul, v20_lum, v20_sub, v20_bad, v20_cl, g1, g2, g3, g4, cD]); rw [r3, ev_rn, ch_60_4]; (try simp +decide (disch := omega) only [ni_bF, nI_clamp, nI_add, pk_mul, dc_ltT, dc_ltF, dc_leT, dc_leF, dc_eqF, dc_neT, dn_eq, dn_ne, dn_lt, dn_ge, si_at, si_c, si_k, ne_eq, not_false_eq_true, not_true_eq_false, ↓reduceIte, v1_ltT, v1_ltF, v1_gtT, v1_gtF, v1_leT, v1_leF, v1_geT, v1_geF, v1_eqT, v1_eqF, v1_add, v1_dda, v1_mul, v1_lum, v1_sub, v1_bad, v1_cl, g1, g2, g3, g4, cD]); rw [ht_60_3, ch_60_8]; (try simp +decide (disch := omega) only [ni_bF, nI_clamp, nI_add, pk_mul, dc_ltT, dc_ltF, dc_leT, dc_leF, dc_eqF, dc_neT, dn_eq, dn_ne, dn_lt, dn_ge, si_at, si_c, si_k, ne_eq, not_false_eq_true, not_true_eq_false, ↓reduceIte, v0_ltT, v0_ltF, v0_gtT, v0_gtF, v0_leT, v0_leF, v0_geT, v0_geF, v0_eqT, v0_eqF, v0_add, v0_dda, v0_mul, v0_lum, v0_sub, v0_bad, v0_cl, v1_ltT, v1_ltF, v1_gtT, v1_gtF, v1_leT, v1_leF, v1_geT, v1_geF, v1_eqT, v1_eqF, v1_add, v1_dda, v1_mul, v1_lum, v1_sub, v1_bad, v1_cl, v3_ltT, v3_ltF, v3_gtT, v3_gtF, v3_leT, v3_leF, v3_geT, v3_geF, v3_eqT, v3_eqF, v3_add, v3_dda, v3_mul, v3_lum, v3_sub, v3_bad, v3_cl, g1, g2, g3, g4, cD]); rw [ht_60_4, ch_60_12, ht_60_5, ch_60_9, r4, ev_rn, ch_60_13]; (try simp +decide (disch := omega) only [ni_bF, nI_clamp, nI_add, pk_mul, dc_ltT, dc_ltF, dc_leT, dc_leF, dc_eqF, dc_neT, dn_eq, dn_ne, dn_lt, dn_ge, si_at, si_c, si_k, ne_eq, not_false_eq_true, not_true_eq_false, ↓reduceIte, g1, g2, g3, g4, cD]); rw [r5, ev_rs, ch_60_16, sk_60_6_154, ht_60_9, ch_60_5]
          rw [cD] at r6
          exact r6
      · rw [if_neg (fun x => cD x.1)] at eD'
        rw [eD'] at r4 r5 r6
        rw [ht_60_2, ch_60_2]; (try simp +decide (disch := omega) only [ni_bF, nI_clamp, nI_add, pk_mul, dc_ltT, dc_ltF, dc_leT, dc_leF, dc_eqF, dc_neT, dn_eq, dn_ne, dn_lt, dn_ge, si_at, si_c, si_k, ne_eq, not_false_eq_true, not_true_eq_false, ↓reduceIte, v20_ltT, v20_ltF, v20_gtT, v20_gtF, v20_leT, v20_leF, v20_geT, v20_geF, v20_eqT, v20_eqF, v20_add, v20_dda, v20_mul, v20_lum, v20_sub, v20_bad, v20_cl, g1, g2, g3, g4, cD]); rw [r3, ev_rn, ch_60_4]; (try simp +decide (disch := omega) only [ni_bF, nI_clamp, nI_add, pk_mul, dc_ltT, dc_ltF, dc_leT, dc_leF, dc_eqF, dc_neT, dn_eq, dn_ne, dn_lt, dn_ge, si_at, si_c, si_k, ne_eq, not_false_eq_true, not_true_eq_false, ↓reduceIte, v1_ltT, v1_ltF, v1_gtT, v1_gtF, v1_leT, v1_leF, v1_geT, v1_geF, v1_eqT, v1_eqF, v1_add, v1_dda, v1_mul, v1_lum, v1_sub, v1_bad, v1_cl, g1, g2, g3, g4, cD]); rw [ht_60_3, ch_60_8]; (try simp +decide (disch := omega) only [ni_bF, nI_clamp, nI_add, pk_mul, dc_ltT, dc_ltF, dc_leT, dc_leF, dc_eqF, dc_neT, dn_eq, dn_ne, dn_lt, dn_ge, si_at, si_c, si_k, ne_eq, not_false_eq_true, not_true_eq_false, ↓reduceIte, v0_ltT, v0_ltF, v0_gtT, v0_gtF, v0_leT, v0_leF, v0_geT, v0_geF, v0_eqT, v0_eqF, v0_add, v0_dda, v0_mul, v0_lum, v0_sub, v0_bad, v0_cl, v1_ltT, v1_ltF, v1_gtT, v1_gtF, v1_leT, v1_leF, v1_geT, v1_geF, v1_eqT, v1_eqF, v1_add, v1_dda, v1_mul, v1_lum, v1_sub, v1_bad, v1_cl, v3_ltT, v3_ltF, v3_gtT, v3_gtF, v3_leT, v3_leF, v3_geT, v3_geF, v3_eqT, v3_eqF, v3_add, v3_dda, v3_mul, v3_lum, v3_sub, v3_bad, v3_cl, g1, g2, g3, g4, cD]); rw [ht_60_4, ch_60_12, ht_60_5, ch_60_9, r4, ev_rn, ch_60_13]; (try simp +decide (disch := omega) only [ni_bF, nI_clamp, nI_add, pk_mul, dc_ltT, dc_ltF, dc_leT, dc_leF, dc_eqF, dc_neT, dn_eq, dn_ne, dn_lt, dn_ge, si_at, si_c, si_k, ne_eq, not_false_eq_true, not_true_eq_false, ↓reduceIte, g1, g2, g3, g4, cD]); rw [r5, ev_rs, ch_60_16, sk_60_6_154, ht_60_9, ch_60_5]
        exact r6
  · rw [if_neg k4]
    have g1 : h 79 (z + hd0) ≠ 20 := by rw [go]; exact fun e => k4 (io.2.1.mp e)
    have g2 : h 79 (z + hd0) ≠ 24 := by rw [go]; exact fun e => k2 (io.2.2.mp e)
    have eD := us_dm_h (m := m + 1) D (by omega)
    have X6 := IHg _ _ _ _ _ _ _ _ p2 (by omega) hG (by omega) eD
    obtain ⟨h3, r4, s3⟩ := fm_call IH p2 (by omega) hNN hG (by omega) eD hv (fun t h3 h4 => hz t h3 (by omega)) hr hT (show 4 * f3 + 5 ≤ d + 2 by omega) hs
    have hu : ∀ i, (fun _ => 20 : Nat → Int32) i ∈ us_codes := fun _ => us_c20
    have XY := ft_gsq IHg hu (Nat.le_refl _) w (by omega) hG (by omega) r1
    obtain ⟨h5, r6, s5⟩ := lp 0 us_c0 n' (by omega) _ _ h3 (by rw [fm_at]; exact vs_next hv X6) (fun t h3 h4 => by rw [fm_at]; exact ft_vz (hz t h3 h4) X6 (by omega) (fun e => by have := hG t e; omega)) s3
    have eu : mu_u K M SZ R hd0 (m + 1) D 0 = (fun _ => 20) := by
      funext i
      unfold mu_u
      rw [if_neg k4, if_neg k2]
    rw [eu] at s5
    refine ⟨h5, ?_, fm_two hv X6 XY s5⟩
    rw [en]
    unfold us_hd at r4
    by_cases cD : D = 0
    · by_cases c3 : m + 1 ≤ 3
      · rw [if_pos ⟨cD, li_ngt c3 (by decide)⟩] at r4
        rw [ht_60_2, ch_60_2]; (try simp +decide (disch := omega) only [ni_bF, nI_clamp, nI_add, pk_mul, dc_ltT, dc_ltF, dc_leT, dc_leF, dc_eqF, dc_neT, dn_eq, dn_ne, dn_lt, dn_ge, si_at, si_c, si_k, ne_eq, not_false_eq_true, not_true_eq_false, ↓reduceIte, v20_ltT, v20_ltF, v20_gtT, v20_gtF, v20_leT, v20_leF, v20_geT, v20_geF, v20_eqT, v20_eqF, v20_add, v20_dda, v20_mul, v20_lum, v20_sub, v20_bad, v20_cl, g1, g2, cD]); rw [sk_60_3_119, ht_60_6, ch_60_3]; (try simp +decide (disch := omega) only [ni_bF, nI_clamp, nI_add, pk_mul, dc_ltT, dc_ltF, dc_leT, dc_leF, dc_eqF, dc_neT, dn_eq, dn_ne, dn_lt, dn_ge, si_at, si_c, si_k, ne_eq, not_false_eq_true, not_true_eq_false, ↓reduceIte, v0_ltT, v0_ltF, v0_gtT, v0_gtF, v0_leT, v0_leF, v0_geT, v0_geF, v0_eqT, v0_eqF, v0_add, v0_dda, v0_mul, v0_lum, v0_sub, v0_bad, v0_cl, v3_ltT, v3_ltF, v3_gtT, v3_gtF, v3_leT, v3_leF, v3_geT, v3_geF, v3_eqT, v3_eqF, v3_add, v3_dda, v3_mul, v3_lum, v3_sub, v3_bad, v3_cl, v24_ltT, v24_ltF, v24_gtT, v24_gtF, v24_leT, v24_leF, v24_geT, v24_geF, v24_eqT, v24_eqF, v24_add, v24_dda, v24_mul, v24_lum, v24_sub, v24_bad, v24_cl, g1, g2, cD]); rw [sk_60_7_151, ht_60_8, ch_60_7, r4, ev_rn, ch_60_11, ht_60_9, ch_60_5]
        rw [cD] at r6
        exact r6
      · rw [if_neg (fun x => x.2 (li_gt (by omega) (by omega)))] at r4
        rw [ht_60_2, ch_60_2]; (try simp +decide (disch := omega) only [ni_bF, nI_clamp, nI_add, pk_mul, dc_ltT, dc_ltF, dc_leT, dc_leF, dc_eqF, dc_neT, dn_eq, dn_ne, dn_lt, dn_ge, si_at, si_c, si_k, ne_eq, not_false_eq_true, not_true_eq_false, ↓reduceIte, v20_ltT, v20_ltF, v20_gtT, v20_gtF, v20_leT, v20_leF, v20_geT, v20_geF, v20_eqT, v20_eqF, v20_add, v20_dda, v20_mul, v20_lum, v20_sub, v20_bad, v20_cl, g1, g2, cD]); rw [sk_60_3_119, ht_60_6, ch_60_3]; (try simp +decide (disch := omega) only [ni_bF, nI_clamp, nI_add, pk_mul, dc_ltT, dc_ltF, dc_leT, dc_leF, dc_eqF, dc_neT, dn_eq, dn_ne, dn_lt, dn_ge, si_at, si_c, si_k, ne_eq, not_false_eq_true, not_true_eq_false, ↓reduceIte, v0_ltT, v0_ltF, v0_gtT, v0_gtF, v0_leT, v0_leF, v0_geT, v0_geF, v0_eqT, v0_eqF, v0_add, v0_dda, v0_mul, v0_lum, v0_sub, v0_bad, v0_cl, v3_ltT, v3_ltF, v3_gtT, v3_gtF, v3_leT, v3_leF, v3_geT, v3_geF, v3_eqT, v3_eqF, v3_add, v3_dda, v3_mul, v3_lum, v3_sub, v3_bad, v3_cl, v24_ltT, v24_ltF, v24_gtT, v24_gtF, v24_leT, v24_leF, v24_geT, v24_geF, v24_eqT, v24_eqF, v24_add, v24_dda, v24_mul, v24_lum, v24_sub, v24_bad, v24_cl, g1, g2, cD]); rw [ht_60_7, ch_60_6, ht_60_8, ch_60_7, r4, ev_rn, ch_60_11, ht_60_9, ch_60_5]
        rw [cD] at r6
        exact r6
    · rw [if_neg (fun x => cD x.1)] at r4
      rw [ht_60_2, ch_60_2]; (try simp +decide (disch := omega) only [ni_bF, nI_clamp, nI_add, pk_mul, dc_ltT, dc_ltF, dc_leT, dc_leF, dc_eqF, dc_neT, dn_eq, dn_ne, dn_lt, dn_ge, si_at, si_c, si_k, ne_eq, not_false_eq_true, not_true_eq_false, ↓reduceIte, v20_ltT, v20_ltF, v20_gtT, v20_gtF, v20_leT, v20_leF, v20_geT, v20_geF, v20_eqT, v20_eqF, v20_add, v20_dda, v20_mul, v20_lum, v20_sub, v20_bad, v20_cl, g1, g2, cD]); rw [sk_60_3_119, ht_60_6, ch_60_3]; (try simp +decide (disch := omega) only [ni_bF, nI_clamp, nI_add, pk_mul, dc_ltT, dc_ltF, dc_leT, dc_leF, dc_eqF, dc_neT, dn_eq, dn_ne, dn_lt, dn_ge, si_at, si_c, si_k, ne_eq, not_false_eq_true, not_true_eq_false, ↓reduceIte, v0_ltT, v0_ltF, v0_gtT, v0_gtF, v0_leT, v0_leF, v0_geT, v0_geF, v0_eqT, v0_eqF, v0_add, v0_dda, v0_mul, v0_lum, v0_sub, v0_bad, v0_cl, v3_ltT, v3_ltF, v3_gtT, v3_gtF, v3_leT, v3_leF, v3_geT, v3_geF, v3_eqT, v3_eqF, v3_add, v3_dda, v3_mul, v3_lum, v3_sub, v3_bad, v3_cl, v24_ltT, v24_ltF, v24_gtT, v24_gtF, v24_leT, v24_leF, v24_geT, v24_geF, v24_eqT, v24_eqF, v24_add, v24_dda, v24_mul, v24_lum, v24_sub, v24_bad, v24_cl, g1, g2, cD]); rw [ht_60_7, ch_60_6, ht_60_8, ch_60_7, r4, ev_rn, ch_60_11, ht_60_9, ch_60_5]
      exact r6
theorem ft_model (hNN : NN ≤ 2900) (hR : ∀ i, R i ∈ us_codes) (hzb : z = 2900 * hf) (hf2 : hf < 2) (hNT : NT ≤ 200) (e7 : h0 73 7 = nI hf) (e86 : h0 86 hf = nI NT) (hRm : ∀ i, i < 192 → h0 97 i = uk_c (R i) ∧ h0 98 i = uk_d (R i)) (hnd : nd ≤ 24) (hP : ∀ e, e < nd → ∃ w, SZ e = nI w ∧ w ≤ 4 ∧ h0 90 (24 * hf + e) = nI w) (hrp : ∀ k, k < NN → rp_N K M A B C h0 z k) : ∀ N, fm_C h0 K M A B C SZ R hl nd z NT NN N
  | 0, _, _, _, _, _, _, _, _, _, _, _, _, _, _, _, _, _, w, _, _, _, _, _, _, _, _, _, _, _ => w.elim
  | N + 1, f, g, k, s, a, b, G, D, ρ, T, RW, S, d, n, x2, x3, h, w, hk, hG, hb, hD, hv, hz, hr, hT, hd, hn, hs => by
    have IH := ft_model hNN hR hzb hf2 hNT e7 e86 hRm hnd hP hrp N
    have o := wf_ord w
    have w0 := w
    have IHg := ft_good (SZ := SZ) hR N (K := K) (M := M) (A := A) (B := B) (C := C) (nd := nd)
    have rp := hrp k hk
    unfold ft
    unfold ft_F
    rcases w with ⟨x, _⟩ | ⟨x, _, _, t, e1, e2⟩ | ⟨x, _⟩ | ⟨x, f', g', i, j, c, q1, q2, q3, q4, w1, w2, w3⟩ | ⟨x, f', g', j, q1, q2, q3, q4, w1, w2⟩ | ⟨x, f', g', i, j, c, q1, q2, q3, q4, q5, w1, w2, w3⟩ | ⟨x, f', g', i, j, l, c, e, q1, q2, q3, q4, q5, w1, w2, w3, w4⟩ | ⟨x, f', g', i, j, c, q1, q2, q3, q4, q5, w1, w2, w3⟩ | ⟨x, y, f1, f', i, j, c, q1, q2, q3, q4, w1, w2, w3⟩ | ⟨x, f1, f', i, j, c, q1, q2, q3, q4, w1, w2, w3⟩
    · rw [x, if_neg (by decide), if_neg (by decide), if_neg (by decide), if_neg (by decide), if_neg (by decide), if_neg (by decide), if_neg (by decide), if_neg (by decide)]
      have g1 := (fm_rd hs (c := 79) (by decide) (z + k)).trans (rp.1 x).1
      refine ⟨h, ?_, fm_none hv hs⟩
      rw [ht_57_1, ch_57_1]; (try simp +decide (disch := omega) only [ni_bF, nI_clamp, nI_add, pk_mul, dc_ltT, dc_ltF, dc_leT, dc_leF, dc_eqF, dc_neT, dn_eq, dn_ne, dn_lt, dn_ge, si_at, si_c, si_k, ne_eq, not_false_eq_true, not_true_eq_false, ↓reduceIte, v42_ltT, v42_ltF, v42_gtT, v42_gtF, v42_leT, v42_leF, v42_geT, v42_geF, v42_eqT, v42_eqF, v42_add, v42_dda, v42_mul, v42_lum, v42_sub, v42_bad, v42_cl, v43_ltT, v43_ltF, v43_gtT, v43_gtF, v43_leT, v43_leF, v43_geT, v43_geF, v43_eqT, v43_eqF, v43_add, v43_dda, v43_mul, v43_lum, v43_sub, v43_bad, v43_cl, v45_ltT, v45_ltF, v45_gtT, v45_gtF, v45_leT, v45_leF, v45_geT, v45_geF, v45_eqT, v45_eqF, v45_add, v45_dda, v45_mul, v45_lum, v45_sub, v45_bad, v45_cl, v60_ltT, v60_ltF, v60_gtT, v60_gtF, v60_leT, v60_leF, v60_geT, v60_geF, v60_eqT, v60_eqF, v60_add, v60_dda, v60_mul, v60_lum, v60_sub, v60_bad, v60_cl, g1]); rw [sk_57_2_82, ht_57_3, ch_57_3]; (try simp +decide (disch := omega) only [ni_bF, nI_clamp, nI_add, pk_mul, dc_ltT, dc_ltF, dc_leT, dc_leF, dc_eqF, dc_neT, dn_eq, dn_ne, dn_lt, dn_ge, si_at, si_c, si_k, ne_eq, not_false_eq_true, not_true_eq_false, ↓reduceIte, v4_eqT, v4_eqF, v5_eqT, v5_eqF, v6_eqT, v6_eqF, v7_eqT, v7_eqF, v8_eqT, v8_eqF, v9_eqT, v9_eqF, v10_eqT, v10_eqF, v11_eqT, v11_eqF, v12_eqT, v12_eqF, v13_eqT, v13_eqF, v14_eqT, v14_eqF, v15_eqT, v15_eqF, v16_eqT, v16_eqF, v17_eqT, v17_eqF, v18_eqT, v18_eqF, v19_eqT, v19_eqF, v20_eqT, v20_eqF, v21_eqT, v21_eqF, v22_eqT, v22_eqF, v23_eqT, v23_eqF, g1]); rw [sk_57_4_407, ht_57_14, ch_57_6]
    · rw [x, if_pos rfl, e1]
      have := hG t e2
      rw [nn_n (by omega)]
      have g1 := (fm_rd hs (c := 79) (by decide) (z + k)).trans (rp.2.1 x).1
      have g2 := ((fm_rd hs (c := 80) (by decide) (z + k)).trans (rp.2.1 x).2).trans e1
      obtain ⟨d, rfl⟩ : ∃ d', d = d' + 1 := ⟨d - 1, by omega⟩
      obtain ⟨h', r1, r2⟩ := fm_add (hl := hl) d t (us_dm_8 _ hD) (hv t (by omega)).1 hr (by omega) (by omega) hs
      rw [(uk_8 _ hD).1, (uk_8 _ hD).2] at r1
      refine ⟨h', ?_, fm_one hv (by omega) r2⟩
      rw [ht_57_1, ch_57_1]; (try simp +decide (disch := omega) only [ni_bF, nI_clamp, nI_add, pk_mul, dc_ltT, dc_ltF, dc_leT, dc_leF, dc_eqF, dc_neT, dn_eq, dn_ne, dn_lt, dn_ge, si_at, si_c, si_k, ne_eq, not_false_eq_true, not_true_eq_false, ↓reduceIte, v42_ltT, v42_ltF, v42_gtT, v42_gtF, v42_leT, v42_leF, v42_geT, v42_geF, v42_eqT, v42_eqF, v42_add, v42_dda, v42_mul, v42_lum, v42_sub, v42_bad, v42_cl, v43_ltT, v43_ltF, v43_gtT, v43_gtF, v43_leT, v43_leF, v43_geT, v43_geF, v43_eqT, v43_eqF, v43_add, v43_dda, v43_mul, v43_lum, v43_sub, v43_bad, v43_cl, v45_ltT, v45_ltF, v45_gtT, v45_gtF, v45_leT, v45_leF, v45_geT, v45_geF, v45_eqT, v45_eqF, v45_add, v45_dda, v45_mul, v45_lum, v45_sub, v45_bad, v45_cl, v60_ltT, v60_ltF, v60_gtT, v60_gtF, v60_leT, v60_leF, v60_geT, v60_geF, v60_eqT, v60_eqF, v60_add, v60_dda, v60_mul, v60_lum, v60_sub, v60_bad, v60_cl, g1, g2]); rw [sk_57_2_82, ht_57_3, ch_57_3]; (try simp +decide (disch := omega) only [ni_bF, nI_clamp, nI_add, pk_mul, dc_ltT, dc_ltF, dc_leT, dc_leF, dc_eqF, dc_neT, dn_eq, dn_ne, dn_lt, dn_ge, si_at, si_c, si_k, ne_eq, not_false_eq_true, not_true_eq_false, ↓reduceIte, v4_eqT, v4_eqF, v5_eqT, v5_eqF, v6_eqT, v6_eqF, v7_eqT, v7_eqF, v8_eqT, v8_eqF, v9_eqT, v9_eqF, v10_eqT, v10_eqF, v11_eqT, v11_eqF, v12_eqT, v12_eqF, v13_eqT, v13_eqF, v14_eqT, v14_eqF, v15_eqT, v15_eqF, v16_eqT, v16_eqF, v17_eqT, v17_eqF, v18_eqT, v18_eqF, v19_eqT, v19_eqF, v20_eqT, v20_eqF, v21_eqT, v21_eqF, v22_eqT, v22_eqF, v23_eqT, v23_eqF, g1, g2]); rw [ht_57_4, ch_57_12]; (try simp +decide (disch := omega) only [ni_bF, nI_clamp, nI_add, pk_mul, dc_ltT, dc_ltF, dc_leT, dc_leF, dc_eqF, dc_neT, dn_eq, dn_ne, dn_lt, dn_ge, si_at, si_c, si_k, ne_eq, not_false_eq_true, not_true_eq_false, ↓reduceIte, g1, g2]); rw [r1, ev_rn, ch_57_19, sk_57_5_407, ht_57_14, ch_57_6]
    · rw [x, if_neg (by decide), if_neg (by decide), if_neg (by decide), if_neg (by decide), if_neg (by decide), if_neg (by decide), if_neg (by decide), if_neg (by decide)]
      have g1 := (fm_rd hs (c := 79) (by decide) (z + k)).trans (rp.2.2.1 x).1
      refine ⟨h, ?_, fm_none hv hs⟩
      rw [ht_57_1, ch_57_1]; (try simp +decide (disch := omega) only [ni_bF, nI_clamp, nI_add, pk_mul, dc_ltT, dc_ltF, dc_leT, dc_leF, dc_eqF, dc_neT, dn_eq, dn_ne, dn_lt, dn_ge, si_at, si_c, si_k, ne_eq, not_false_eq_true, not_true_eq_false, ↓reduceIte, v42_ltT, v42_ltF, v42_gtT, v42_gtF, v42_leT, v42_leF, v42_geT, v42_geF, v42_eqT, v42_eqF, v42_add, v42_dda, v42_mul, v42_lum, v42_sub, v42_bad, v42_cl, v43_ltT, v43_ltF, v43_gtT, v43_gtF, v43_leT, v43_leF, v43_geT, v43_geF, v43_eqT, v43_eqF, v43_add, v43_dda, v43_mul, v43_lum, v43_sub, v43_bad, v43_cl, v45_ltT, v45_ltF, v45_gtT, v45_gtF, v45_leT, v45_leF, v45_geT, v45_geF, v45_eqT, v45_eqF, v45_add, v45_dda, v45_mul, v45_lum, v45_sub, v45_bad, v45_cl, v60_ltT, v60_ltF, v60_gtT, v60_gtF, v60_leT, v60_leF, v60_geT, v60_geF, v60_eqT, v60_eqF, v60_add, v60_dda, v60_mul, v60_lum, v60_sub, v60_bad, v60_cl, g1]); rw [sk_57_2_82, ht_57_3, ch_57_3]; (try simp +decide (disch := omega) only [ni_bF, nI_clamp, nI_add, pk_mul, dc_ltT, dc_ltF, dc_leT, dc_leF, dc_eqF, dc_neT, dn_eq, dn_ne, dn_lt, dn_ge, si_at, si_c, si_k, ne_eq, not_false_eq_true, not_true_eq_false, ↓reduceIte, v4_eqT, v4_eqF, v5_eqT, v5_eqF, v6_eqT, v6_eqF, v7_eqT, v7_eqF, v8_eqT, v8_eqF, v9_eqT, v9_eqF, v10_eqT, v10_eqF, v11_eqT, v11_eqF, v12_eqT, v12_eqF, v13_eqT, v13_eqF, v14_eqT, v14_eqF, v15_eqT, v15_eqF, v16_eqT, v16_eqF, v17_eqT, v17_eqF, v18_eqT, v18_eqF, v19_eqT, v19_eqF, v20_eqT, v20_eqF, v21_eqT, v21_eqF, v22_eqT, v22_eqF, v23_eqT, v23_eqF, g1]); rw [sk_57_4_407, ht_57_14, ch_57_6]
    · have o2 := wf_ord w2
      have o3 := wf_ord w3
      rw [x, if_neg (by decide), if_pos rfl, q3, q4, nn_n (by omega), nn_n (by omega)]
      obtain ⟨pa, pb, pc⟩ := rp.2.2.2.1 x
      rw [q3, nI_add] at pb
      rw [q4, nI_add] at pc
      have g1 := (fm_rd hs (c := 79) (by decide) (z + k)).trans pa
      have g2 := (fm_rd hs (c := 80) (by decide) (z + k)).trans pb
      by_cases c0 : D = 0
      · rw [if_pos c0]
        refine ⟨h, ?_, fm_none hv hs⟩
        rw [ht_57_1, ch_57_1]; (try simp +decide (disch := omega) only [ni_bF, nI_clamp, nI_add, pk_mul, dc_ltT, dc_ltF, dc_leT, dc_leF, dc_eqF, dc_neT, dn_eq, dn_ne, dn_lt, dn_ge, si_at, si_c, si_k, ne_eq, not_false_eq_true, not_true_eq_false, ↓reduceIte, v42_ltT, v42_ltF, v42_gtT, v42_gtF, v42_leT, v42_leF, v42_geT, v42_geF, v42_eqT, v42_eqF, v42_add, v42_dda, v42_mul, v42_lum, v42_sub, v42_bad, v42_cl, v43_ltT, v43_ltF, v43_gtT, v43_gtF, v43_leT, v43_leF, v43_geT, v43_geF, v43_eqT, v43_eqF, v43_add, v43_dda, v43_mul, v43_lum, v43_sub, v43_bad, v43_cl, v45_ltT, v45_ltF, v45_gtT, v45_gtF, v45_leT, v45_leF, v45_geT, v45_geF, v45_eqT, v45_eqF, v45_add, v45_dda, v45_mul, v45_lum, v45_sub, v45_bad, v45_cl, v60_ltT, v60_ltF, v60_gtT, v60_gtF, v60_leT, v60_leF, v60_geT, v60_geF, v60_eqT, v60_eqF, v60_add, v60_dda, v60_mul, v60_lum, v60_sub, v60_bad, v60_cl, g1]); rw [sk_57_2_82, ht_57_3, ch_57_3]; (try simp +decide (disch := omega) only [ni_bF, nI_clamp, nI_add, pk_mul, dc_ltT, dc_ltF, dc_leT, dc_leF, dc_eqF, dc_neT, dn_eq, dn_ne, dn_lt, dn_ge, si_at, si_c, si_k, ne_eq, not_false_eq_true, not_true_eq_false, ↓reduceIte, v4_eqT, v4_eqF, v5_eqT, v5_eqF, v6_eqT, v6_eqF, v7_eqT, v7_eqF, v8_eqT, v8_eqF, v9_eqT, v9_eqF, v10_eqT, v10_eqF, v11_eqT, v11_eqF, v12_eqT, v12_eqF, v13_eqT, v13_eqF, v14_eqT, v14_eqF, v15_eqT, v15_eqF, v16_eqT, v16_eqF, v17_eqT, v17_eqF, v18_eqT, v18_eqF, v19_eqT, v19_eqF, v20_eqT, v20_eqF, v21_eqT, v21_eqF, v22_eqT, v22_eqF, v23_eqT, v23_eqF, g1]); rw [sk_57_4_359, ht_57_12, ch_57_10]; (try simp +decide (disch := omega) only [ni_bF, nI_clamp, nI_add, pk_mul, dc_ltT, dc_ltF, dc_leT, dc_leF, dc_eqF, dc_neT, dn_eq, dn_ne, dn_lt, dn_ge, si_at, si_c, si_k, ne_eq, not_false_eq_true, not_true_eq_false, ↓reduceIte, v0_ltT, v0_ltF, v0_gtT, v0_gtF, v0_leT, v0_leF, v0_geT, v0_geF, v0_eqT, v0_eqF, v0_add, v0_dda, v0_mul, v0_lum, v0_sub, v0_bad, v0_cl, g1]); rw [if_pos c0, sk_57_13_407, ht_57_14, ch_57_6]
      rw [if_neg c0]
      have hG2 : ∀ t ∈ G, t < c := fun t ht => by have := hG t ht; omega
      have X1 := ft_ga (ft K M A B C SZ R N) hG (by omega) w2 (fun D hD => IHg _ _ _ _ _ _ _ D w2 (by omega) hG (by omega) hD) us_c20
      have X2 := ft_ga (ft K M A B C SZ R N) hG2 (by omega) w3 (fun D hD => IHg _ _ _ _ _ _ _ D w3 (by omega) hG2 (by omega) hD) us_c20
      obtain ⟨h1, r1, s1⟩ := fm_argued IH (by omega) hNT (hrp i (by omega)) w2 (by omega) hNN hG (by omega) us_c20 hv (fun t h3 h4 => hz t h3 (by omega)) hr (by omega) (show 4 * f' + 6 ≤ d by omega) hs
      obtain ⟨h2, r2, s2⟩ := fm_argued IH (by omega) hNT (hrp j (by omega)) w3 (by omega) hNN hG2 hb us_c20 (by rw [fm_at]; exact vs_next hv X1) (fun t h3 h4 => by rw [fm_at]; exact ft_vz (hz t (by omega) h4) X1 (by omega) (fun e => by have := hG t e; omega)) hr (by omega) (show 4 * f' + 6 ≤ d by omega) s1
      refine ⟨h2, ?_, fm_two hv X1 X2 s2⟩
      have g3 := (fm_rd s1 (c := 81) (by decide) (z + k)).trans pc
      rw [ht_57_1, ch_57_1]; (try simp +decide (disch := omega) only [ni_bF, nI_clamp, nI_add, pk_mul, dc_ltT, dc_ltF, dc_leT, dc_leF, dc_eqF, dc_neT, dn_eq, dn_ne, dn_lt, dn_ge, si_at, si_c, si_k, ne_eq, not_false_eq_true, not_true_eq_false, ↓reduceIte, v42_ltT, v42_ltF, v42_gtT, v42_gtF, v42_leT, v42_leF, v42_geT, v42_geF, v42_eqT, v42_eqF, v42_add, v42_dda, v42_mul, v42_lum, v42_sub, v42_bad, v42_cl, v43_ltT, v43_ltF, v43_gtT, v43_gtF, v43_leT, v43_leF, v43_geT, v43_geF, v43_eqT, v43_eqF, v43_add, v43_dda, v43_mul, v43_lum, v43_sub, v43_bad, v43_cl, v45_ltT, v45_ltF, v45_gtT, v45_gtF, v45_leT, v45_leF, v45_geT, v45_geF, v45_eqT, v45_eqF, v45_add, v45_dda, v45_mul, v45_lum, v45_sub, v45_bad, v45_cl, v60_ltT, v60_ltF, v60_gtT, v60_gtF, v60_leT, v60_leF, v60_geT, v60_geF, v60_eqT, v60_eqF, v60_add, v60_dda, v60_mul, v60_lum, v60_sub, v60_bad, v60_cl, g1, g2, g3]); rw [sk_57_2_82, ht_57_3, ch_57_3]; (try simp +decide (disch := omega) only [ni_bF, nI_clamp, nI_add, pk_mul, dc_ltT, dc_ltF, dc_leT, dc_leF, dc_eqF, dc_neT, dn_eq, dn_ne, dn_lt, dn_ge, si_at, si_c, si_k, ne_eq, not_false_eq_true, not_true_eq_false, ↓reduceIte, v4_eqT, v4_eqF, v5_eqT, v5_eqF, v6_eqT, v6_eqF, v7_eqT, v7_eqF, v8_eqT, v8_eqF, v9_eqT, v9_eqF, v10_eqT, v10_eqF, v11_eqT, v11_eqF, v12_eqT, v12_eqF, v13_eqT, v13_eqF, v14_eqT, v14_eqF, v15_eqT, v15_eqF, v16_eqT, v16_eqF, v17_eqT, v17_eqF, v18_eqT, v18_eqF, v19_eqT, v19_eqF, v20_eqT, v20_eqF, v21_eqT, v21_eqF, v22_eqT, v22_eqF, v23_eqT, v23_eqF, g1, g2, g3]); rw [sk_57_4_359, ht_57_12, ch_57_10]; (try simp +decide (disch := omega) only [ni_bF, nI_clamp, nI_add, pk_mul, dc_ltT, dc_ltF, dc_leT, dc_leF, dc_eqF, dc_neT, dn_eq, dn_ne, dn_lt, dn_ge, si_at, si_c, si_k, ne_eq, not_false_eq_true, not_true_eq_false, ↓reduceIte, v0_ltT, v0_ltF, v0_gtT, v0_gtF, v0_leT, v0_leF, v0_geT, v0_geF, v0_eqT, v0_eqF, v0_add, v0_dda, v0_mul, v0_lum, v0_sub, v0_bad, v0_cl, g1, g2, g3]); rw [if_neg c0, r1, ev_rn, ch_57_17]; (try simp +decide (disch := omega) only [ni_bF, nI_clamp, nI_add, pk_mul, dc_ltT, dc_ltF, dc_leT, dc_leF, dc_eqF, dc_neT, dn_eq, dn_ne, dn_lt, dn_ge, si_at, si_c, si_k, ne_eq, not_false_eq_true, not_true_eq_false, ↓reduceIte, g1, g2, g3]); rw [r2, ev_rn, ch_57_22, sk_57_13_407, ht_57_14, ch_57_6]
    · have o2 := wf_ord w2
      rw [x, if_neg (by decide), if_neg (by decide), if_pos rfl, q3, q4, nn_n (by omega), nn_n (by omega)]
      have g1 := (fm_rd hs (c := 79) (by decide) (z + k)).trans (rp.2.2.2.2.1 x).1
      obtain ⟨h1, r1, s1⟩ := fm_lam hR IH (by omega) hNT hf2 e7 e86 rp hk hNN hG hb hD hv hz hr hT (show 4 * f + 3 ≤ d by omega) hs x q1 q2 q3 q4 w1 w2
      refine ⟨h1, ?_, s1⟩
      rw [ht_57_1, ch_57_1]; (try simp +decide (disch := omega) only [ni_bF, nI_clamp, nI_add, pk_mul, dc_ltT, dc_ltF, dc_leT, dc_leF, dc_eqF, dc_neT, dn_eq, dn_ne, dn_lt, dn_ge, si_at, si_c, si_k, ne_eq, not_false_eq_true, not_true_eq_false, ↓reduceIte, v42_ltT, v42_ltF, v42_gtT, v42_gtF, v42_leT, v42_leF, v42_geT, v42_geF, v42_eqT, v42_eqF, v42_add, v42_dda, v42_mul, v42_lum, v42_sub, v42_bad, v42_cl, v43_ltT, v43_ltF, v43_gtT, v43_gtF, v43_leT, v43_leF, v43_geT, v43_geF, v43_eqT, v43_eqF, v43_add, v43_dda, v43_mul, v43_lum, v43_sub, v43_bad, v43_cl, v45_ltT, v45_ltF, v45_gtT, v45_gtF, v45_leT, v45_leF, v45_geT, v45_geF, v45_eqT, v45_eqF, v45_add, v45_dda, v45_mul, v45_lum, v45_sub, v45_bad, v45_cl, v60_ltT, v60_ltF, v60_gtT, v60_gtF, v60_leT, v60_leF, v60_geT, v60_geF, v60_eqT, v60_eqF, v60_add, v60_dda, v60_mul, v60_lum, v60_sub, v60_bad, v60_cl, g1]); rw [sk_57_2_82, ht_57_3, ch_57_3]; (try simp +decide (disch := omega) only [ni_bF, nI_clamp, nI_add, pk_mul, dc_ltT, dc_ltF, dc_leT, dc_leF, dc_eqF, dc_neT, dn_eq, dn_ne, dn_lt, dn_ge, si_at, si_c, si_k, ne_eq, not_false_eq_true, not_true_eq_false, ↓reduceIte, v4_eqT, v4_eqF, v5_eqT, v5_eqF, v6_eqT, v6_eqF, v7_eqT, v7_eqF, v8_eqT, v8_eqF, v9_eqT, v9_eqF, v10_eqT, v10_eqF, v11_eqT, v11_eqF, v12_eqT, v12_eqF, v13_eqT, v13_eqF, v14_eqT, v14_eqF, v15_eqT, v15_eqF, v16_eqT, v16_eqF, v17_eqT, v17_eqF, v18_eqT, v18_eqF, v19_eqT, v19_eqF, v20_eqT, v20_eqF, v21_eqT, v21_eqF, v22_eqT, v22_eqF, v23_eqT, v23_eqF, g1]); rw [sk_57_4_347, ht_57_11, ch_57_9, r1, ev_rn, ch_57_16, sk_57_12_407, ht_57_14, ch_57_6]
    · have o2 := wf_ord w2
      have o3 := wf_ord w3
      rw [x, if_neg (by decide), if_neg (by decide), if_neg (by decide), if_pos rfl, q3, q4, q5, nn_n (by omega), nn_n (by omega), nn_n (by omega)]
      obtain ⟨pa, pb, pc, pe⟩ := rp.2.2.2.2.2.1 x
      rw [q4, nI_add] at pb
      rw [q5, nI_add] at pc
      rw [q3] at pe
      have g1 := (fm_rd hs (c := 79) (by decide) (z + k)).trans pa
      have g2 := (fm_rd hs (c := 81) (by decide) (z + k)).trans pc
      have hG2 : ∀ t ∈ a :: G, t < c := fun t ht => (List.mem_cons.mp ht).elim (fun e => by omega) (fun e => by have := hG t e; omega)
      have X2 := IHg _ _ _ _ _ _ _ D w3 (by omega) hG2 (by omega) hD
      have X3 := ft_gt (by omega) X2
      obtain ⟨h1, r1, s1⟩ := fm_call IH w3 (by omega) hNN hG2 (by omega) hD hv (fun t h3 h4 => hz t (by omega) h4) hr (by omega) (show 4 * f' + 5 ≤ d by omega) hs
      have za := hz a (Nat.le_refl _) (by omega)
      have v2 := vs_next hv X2
      obtain ⟨d, rfl⟩ : ∃ d', d = d' + 2 := ⟨d - 2, by omega⟩
      obtain ⟨h2, r2, s2⟩ := fm_take (hl := hl) (ρ := ρ) d a (by rw [fm_at]; exact (v2 _ (by omega)).1) hr (by omega) (by omega) s1
      rw [fm_at] at r2
      rw [fm_at, fm_uu] at s2
      rw [ft_va za X2 (by omega)] at r2
      have s3 : fm_S h0 h2 T (fm_u RW ρ (ft_v (RW ρ) (ft_t (ft K M A B C SZ R N j D) a))) (ft_w S (ft_t (ft K M A B C SZ R N j D) a)) := fm_cu s2 (fun t ht => ft_vt za hv ht (by omega)) (fun t ht => ft_wt za X2 ht (by omega))
      have g3 := (fm_rd s1 (c := 82) (by decide) (z + k)).trans pe
      have g4 := (fm_rd s2 (c := 80) (by decide) (z + k)).trans pb
      have cx := ((X2 a).1 (by omega)).1
      by_cases c0 : ft K M A B C SZ R N j D a = 0
      · rw [if_pos c0, (ft_pz X3).2]
        refine ⟨h2, ?_, s3⟩
        rw [ht_57_1, ch_57_1]; (try simp +decide (disch := omega) only [ni_bF, nI_clamp, nI_add, pk_mul, dc_ltT, dc_ltF, dc_leT, dc_leF, dc_eqF, dc_neT, dn_eq, dn_ne, dn_lt, dn_ge, si_at, si_c, si_k, ne_eq, not_false_eq_true, not_true_eq_false, ↓reduceIte, v42_ltT, v42_ltF, v42_gtT, v42_gtF, v42_leT, v42_leF, v42_geT, v42_geF, v42_eqT, v42_eqF, v42_add, v42_dda, v42_mul, v42_lum, v42_sub, v42_bad, v42_cl, v43_ltT, v43_ltF, v43_gtT, v43_gtF, v43_leT, v43_leF, v43_geT, v43_geF, v43_eqT, v43_eqF, v43_add, v43_dda, v43_mul, v43_lum, v43_sub, v43_bad, v43_cl, v45_ltT, v45_ltF, v45_gtT, v45_gtF, v45_leT, v45_leF, v45_geT, v45_geF, v45_eqT, v45_eqF, v45_add, v45_dda, v45_mul, v45_lum, v45_sub, v45_bad, v45_cl, v60_ltT, v60_ltF, v60_gtT, v60_gtF, v60_leT, v60_leF, v60_geT, v60_geF, v60_eqT, v60_eqF, v60_add, v60_dda, v60_mul, v60_lum, v60_sub, v60_bad, v60_cl, g1, g2, g3, g4]); rw [sk_57_2_82, ht_57_3, ch_57_3]; (try simp +decide (disch := omega) only [ni_bF, nI_clamp, nI_add, pk_mul, dc_ltT, dc_ltF, dc_leT, dc_leF, dc_eqF, dc_neT, dn_eq, dn_ne, dn_lt, dn_ge, si_at, si_c, si_k, ne_eq, not_false_eq_true, not_true_eq_false, ↓reduceIte, v4_eqT, v4_eqF, v5_eqT, v5_eqF, v6_eqT, v6_eqF, v7_eqT, v7_eqF, v8_eqT, v8_eqF, v9_eqT, v9_eqF, v10_eqT, v10_eqF, v11_eqT, v11_eqF, v12_eqT, v12_eqF, v13_eqT, v13_eqF, v14_eqT, v14_eqF, v15_eqT, v15_eqF, v16_eqT, v16_eqF, v17_eqT, v17_eqF, v18_eqT, v18_eqF, v19_eqT, v19_eqF, v20_eqT, v20_eqF, v21_eqT, v21_eqF, v22_eqT, v22_eqF, v23_eqT, v23_eqF, g1, g2, g3, g4]); rw [sk_57_4_214, ht_57_6, ch_57_5]; (try simp +decide (disch := omega) only [ni_bF, nI_clamp, nI_add, pk_mul, dc_ltT, dc_ltF, dc_leT, dc_leF, dc_eqF, dc_neT, dn_eq, dn_ne, dn_lt, dn_ge, si_at, si_c, si_k, ne_eq, not_false_eq_true, not_true_eq_false, ↓reduceIte, g1, g2, g3, g4]); rw [r1, ev_rn, ch_57_13]; (try simp +decide (disch := omega) only [ni_bF, nI_clamp, nI_add, pk_mul, dc_ltT, dc_ltF, dc_leT, dc_leF, dc_eqF, dc_neT, dn_eq, dn_ne, dn_lt, dn_ge, si_at, si_c, si_k, ne_eq, not_false_eq_true, not_true_eq_false, ↓reduceIte, g1, g2, g3, g4]); rw [r2, ev_rs, ch_57_20]; (try simp +decide (disch := omega) only [ni_bF, nI_clamp, nI_add, pk_mul, dc_ltT, dc_ltF, dc_leT, dc_leF, dc_eqF, dc_neT, dn_eq, dn_ne, dn_lt, dn_ge, si_at, si_c, si_k, ne_eq, not_false_eq_true, not_true_eq_false, ↓reduceIte, v0_ltT, v0_ltF, v0_gtT, v0_gtF, v0_leT, v0_leF, v0_geT, v0_geF, v0_eqT, v0_eqF, v0_add, v0_dda, v0_mul, v0_lum, v0_sub, v0_bad, v0_cl, g1, g2, g3, g4]); rw [if_pos ((uk_0 _ cx).2.1.mpr c0), sk_57_7_407, ht_57_14, ch_57_23]
      · rw [if_neg c0]
        have d1 := us_dm_7 _ cx
        have X1 := IHg _ _ _ _ _ _ _ (ft K M A B C SZ R N j D a &&& 7) w2 (by omega) (fun t ht => Nat.lt_succ_of_lt (hG t ht)) (by omega) d1
        obtain ⟨h3, r3, s4⟩ := fm_call IH w2 (by omega) hNN (fun t ht => Nat.lt_succ_of_lt (hG t ht)) (by omega) d1 (by rw [fm_at]; exact vs_next hv X3) (fun t h3 h4 => by rw [fm_at]; exact ft_vz (hz t (by omega) (by omega)) X3 (by omega) (fun e => by have := hG t e; omega)) hr (by omega) (show 4 * f' + 5 ≤ d + 2 by omega) s3
        refine ⟨h3, ?_, fm_two hv X3 X1 s4⟩
        rw [ht_57_1, ch_57_1]; (try simp +decide (disch := omega) only [ni_bF, nI_clamp, nI_add, pk_mul, dc_ltT, dc_ltF, dc_leT, dc_leF, dc_eqF, dc_neT, dn_eq, dn_ne, dn_lt, dn_ge, si_at, si_c, si_k, ne_eq, not_false_eq_true, not_true_eq_false, ↓reduceIte, v42_ltT, v42_ltF, v42_gtT, v42_gtF, v42_leT, v42_leF, v42_geT, v42_geF, v42_eqT, v42_eqF, v42_add, v42_dda, v42_mul, v42_lum, v42_sub, v42_bad, v42_cl, v43_ltT, v43_ltF, v43_gtT, v43_gtF, v43_leT, v43_leF, v43_geT, v43_geF, v43_eqT, v43_eqF, v43_add, v43_dda, v43_mul, v43_lum, v43_sub, v43_bad, v43_cl, v45_ltT, v45_ltF, v45_gtT, v45_gtF, v45_leT, v45_leF, v45_geT, v45_geF, v45_eqT, v45_eqF, v45_add, v45_dda, v45_mul, v45_lum, v45_sub, v45_bad, v45_cl, v60_ltT, v60_ltF, v60_gtT, v60_gtF, v60_leT, v60_leF, v60_geT, v60_geF, v60_eqT, v60_eqF, v60_add, v60_dda, v60_mul, v60_lum, v60_sub, v60_bad, v60_cl, g1, g2, g3, g4]); rw [sk_57_2_82, ht_57_3, ch_57_3]; (try simp +decide (disch := omega) only [ni_bF, nI_clamp, nI_add, pk_mul, dc_ltT, dc_ltF, dc_leT, dc_leF, dc_eqF, dc_neT, dn_eq, dn_ne, dn_lt, dn_ge, si_at, si_c, si_k, ne_eq, not_false_eq_true, not_true_eq_false, ↓reduceIte, v4_eqT, v4_eqF, v5_eqT, v5_eqF, v6_eqT, v6_eqF, v7_eqT, v7_eqF, v8_eqT, v8_eqF, v9_eqT, v9_eqF, v10_eqT, v10_eqF, v11_eqT, v11_eqF, v12_eqT, v12_eqF, v13_eqT, v13_eqF, v14_eqT, v14_eqF, v15_eqT, v15_eqF, v16_eqT, v16_eqF, v17_eqT, v17_eqF, v18_eqT, v18_eqF, v19_eqT, v19_eqF, v20_eqT, v20_eqF, v21_eqT, v21_eqF, v22_eqT, v22_eqF, v23_eqT, v23_eqF, g1, g2, g3, g4]); rw [sk_57_4_214, ht_57_6, ch_57_5]; (try simp +decide (disch := omega) only [ni_bF, nI_clamp, nI_add, pk_mul, dc_ltT, dc_ltF, dc_leT, dc_leF, dc_eqF, dc_neT, dn_eq, dn_ne, dn_lt, dn_ge, si_at, si_c, si_k, ne_eq, not_false_eq_true, not_true_eq_false, ↓reduceIte, g1, g2, g3, g4]); rw [r1, ev_rn, ch_57_13]; (try simp +decide (disch := omega) only [ni_bF, nI_clamp, nI_add, pk_mul, dc_ltT, dc_ltF, dc_leT, dc_leF, dc_eqF, dc_neT, dn_eq, dn_ne, dn_lt, dn_ge, si_at, si_c, si_k, ne_eq, not_false_eq_true, not_true_eq_false, ↓reduceIte, g1, g2, g3, g4]); rw [r2, ev_rs, ch_57_20]; (try simp +decide (disch := omega) only [ni_bF, nI_clamp, nI_add, pk_mul, dc_ltT, dc_ltF, dc_leT, dc_leF, dc_eqF, dc_neT, dn_eq, dn_ne, dn_lt, dn_ge, si_at, si_c, si_k, ne_eq, not_false_eq_true, not_true_eq_false, ↓reduceIte, v0_ltT, v0_ltF, v0_gtT, v0_gtF, v0_leT, v0_leF, v0_geT, v0_geF, v0_eqT, v0_eqF, v0_add, v0_dda, v0_mul, v0_lum, v0_sub, v0_bad, v0_cl, g1, g2, g3, g4]); rw [if_neg (fun e => c0 ((uk_0 _ cx).2.1.mp e)), r3, ev_rn, ch_57_24, sk_57_7_407, ht_57_14, ch_57_23]
    · have o2 := wf_ord w2
      have o3 := wf_ord w3
      have o4 := wf_ord w4
      rw [x, if_neg (by decide), if_neg (by decide), if_neg (by decide), if_neg (by decide), if_pos rfl, q3, q4, q5, nn_n (by omega), nn_n (by omega), nn_n (by omega)]
      have g1 := (fm_rd hs (c := 79) (by decide) (z + k)).trans (rp.2.2.2.2.2.2.1 x).1
      obtain ⟨h1, r1, s1⟩ := fm_if hR IH (by omega) hNT hf2 e7 e86 rp hk hNN hG hb hD hv hz hr hT (show 4 * f + 3 ≤ d by omega) hs x q1 q2 q3 q4 q5 w1 w2 w3 w4
      refine ⟨h1, ?_, s1⟩
      rw [ht_57_1, ch_57_1]; (try simp +decide (disch := omega) only [ni_bF, nI_clamp, nI_add, pk_mul, dc_ltT, dc_ltF, dc_leT, dc_leF, dc_eqF, dc_neT, dn_eq, dn_ne, dn_lt, dn_ge, si_at, si_c, si_k, ne_eq, not_false_eq_true, not_true_eq_false, ↓reduceIte, v42_ltT, v42_ltF, v42_gtT, v42_gtF, v42_leT, v42_leF, v42_geT, v42_geF, v42_eqT, v42_eqF, v42_add, v42_dda, v42_mul, v42_lum, v42_sub, v42_bad, v42_cl, v43_ltT, v43_ltF, v43_gtT, v43_gtF, v43_leT, v43_leF, v43_geT, v43_geF, v43_eqT, v43_eqF, v43_add, v43_dda, v43_mul, v43_lum, v43_sub, v43_bad, v43_cl, v45_ltT, v45_ltF, v45_gtT, v45_gtF, v45_leT, v45_leF, v45_geT, v45_geF, v45_eqT, v45_eqF, v45_add, v45_dda, v45_mul, v45_lum, v45_sub, v45_bad, v45_cl, v60_ltT, v60_ltF, v60_gtT, v60_gtF, v60_leT, v60_leF, v60_geT, v60_geF, v60_eqT, v60_eqF, v60_add, v60_dda, v60_mul, v60_lum, v60_sub, v60_bad, v60_cl, g1]); rw [sk_57_2_82, ht_57_3, ch_57_3]; (try simp +decide (disch := omega) only [ni_bF, nI_clamp, nI_add, pk_mul, dc_ltT, dc_ltF, dc_leT, dc_leF, dc_eqF, dc_neT, dn_eq, dn_ne, dn_lt, dn_ge, si_at, si_c, si_k, ne_eq, not_false_eq_true, not_true_eq_false, ↓reduceIte, v4_eqT, v4_eqF, v5_eqT, v5_eqF, v6_eqT, v6_eqF, v7_eqT, v7_eqF, v8_eqT, v8_eqF, v9_eqT, v9_eqF, v10_eqT, v10_eqF, v11_eqT, v11_eqF, v12_eqT, v12_eqF, v13_eqT, v13_eqF, v14_eqT, v14_eqF, v15_eqT, v15_eqF, v16_eqT, v16_eqF, v17_eqT, v17_eqF, v18_eqT, v18_eqF, v19_eqT, v19_eqF, v20_eqT, v20_eqF, v21_eqT, v21_eqF, v22_eqT, v22_eqF, v23_eqT, v23_eqF, g1]); rw [sk_57_4_202, ht_57_5, ch_57_7, r1, ev_rn, ch_57_14, sk_57_6_407, ht_57_14, ch_57_6]
    · have o2 := wf_ord w2
      have o3 := wf_ord w3
      rw [x, if_neg (by decide), if_neg (by decide), if_neg (by decide), if_neg (by decide), if_neg (by decide), if_pos rfl, q3, q4, q5, nn_n (by omega), nn_n (by omega), nn_n (by omega)]
      obtain ⟨pa, pb, pc, pe⟩ := rp.2.2.2.2.2.2.2.1 x
      rw [q4, nI_add] at pb
      rw [q5, nI_add] at pc
      rw [q3] at pe
      have g1 := (fm_rd hs (c := 79) (by decide) (z + k)).trans pa
      have g2 := (fm_rd hs (c := 81) (by decide) (z + k)).trans pc
      have hG2 : ∀ t ∈ (c + 1) :: c :: G, t < c + 2 := fun t ht => (List.mem_cons.mp ht).elim (fun e => by omega) (fun e => (List.mem_cons.mp e).elim (fun e => by omega) (fun e => by have := hG t e; omega))
      have X2 := IHg _ _ _ _ _ _ _ D w3 (by omega) hG2 (by omega) hD
      have X4 : ft_g (c :: (c + 1) :: G) (ft K M A B C SZ R N j D) := ft_gi (fun t ht => by
        simp only [List.mem_cons] at ht ⊢
        rcases ht with h | h | h
        · exact Or.inr (Or.inl h)
        · exact Or.inl h
        · exact Or.inr (Or.inr h)) X2
      have X3 : ft_g G (ft_t (ft_t (ft K M A B C SZ R N j D) c) (c + 1)) := ft_gt (by omega) (ft_gt (by omega) X4)
      obtain ⟨h1, r1, s1⟩ := fm_call IH w3 (by omega) hNN hG2 (by omega) hD hv (fun t h3 h4 => hz t (by omega) h4) hr (by omega) (show 4 * f' + 5 ≤ d by omega) hs
      have za := hz c (by omega) (by omega)
      have zb := hz (c + 1) (by omega) (by omega)
      have v2 := vs_next hv X2
      obtain ⟨d, rfl⟩ : ∃ d', d = d' + 2 := ⟨d - 2, by omega⟩
      obtain ⟨h2, r2, s2⟩ := fm_take (hl := hl) (ρ := ρ) d c (by rw [fm_at]; exact (v2 _ (by omega)).1) hr (by omega) (by omega) s1
      rw [fm_at] at r2
      rw [fm_at, fm_uu] at s2
      rw [ft_va za X2 (by omega)] at r2 s2
      have eb : fi_u (ft_v (RW ρ) (ft K M A B C SZ R N j D)) c 0 (c + 1) = ft K M A B C SZ R N j D (c + 1) := by
        rw [show fi_u (ft_v (RW ρ) (ft K M A B C SZ R N j D)) c 0 (c + 1) = ft_v (RW ρ) (ft K M A B C SZ R N j D) (c + 1) from if_neg (by omega)]
        exact ft_va zb X2 (by omega)
      have cx := ((X2 c).1 (by omega)).1
      have cy := ((X2 (c + 1)).1 (by omega)).1
      obtain ⟨h3, r3, s3⟩ := fm_take (hl := hl) (ρ := ρ) d (c + 1) (by rw [fm_at, eb]; exact cy) hr (by omega) (by omega) s2
      rw [fm_at, eb] at r3
      rw [fm_at, fm_uu, eb] at s3
      have s4 : fm_S h0 h3 T (fm_u RW ρ (ft_v (RW ρ) (ft_t (ft_t (ft K M A B C SZ R N j D) c) (c + 1)))) (ft_w S (ft_t (ft_t (ft K M A B C SZ R N j D) c) (c + 1))) := fm_cu s3 (fun t ht => ft_vt2 za zb ht (by omega)) (fun t ht => ft_wt2 rfl rfl ht (by omega))
      have d1 : (if ft K M A B C SZ R N j D c + ft K M A B C SZ R N j D (c + 1) = 0 then 0 else 4) ∈ us_dm := by split <;> decide
      have X1 := IHg _ _ _ _ _ _ _ (if ft K M A B C SZ R N j D c + ft K M A B C SZ R N j D (c + 1) = 0 then 0 else 4) w2 (by omega) hG (by omega) d1
      obtain ⟨h5, r5, s5⟩ := fm_call IH w2 (by omega) hNN hG (by omega) d1 (by rw [fm_at]; exact vs_next hv X3) (fun t h3 h4 => by rw [fm_at]; exact ft_vz (hz t (by omega) (by omega)) X3 (by omega) (fun e => by have := hG t e; omega)) hr (by omega) (show 4 * f' + 5 ≤ d + 2 by omega) s4
      refine ⟨h5, ?_, fm_two hv X3 X1 s5⟩
      have g3 := (fm_rd s1 (c := 82) (by decide) (z + k)).trans pe
      have g4 := (fm_rd s2 (c := 82) (by decide) (z + k)).trans pe
      have g5 := (fm_rd s3 (c := 80) (by decide) (z + k)).trans pb
      have us0 : ∀ a ∈ us_codes, ∀ b ∈ us_codes, a + b = 0 ↔ a = 0 ∧ b = 0 := by decide +kernel
      by_cases c1 : ft K M A B C SZ R N j D c = 0
      · by_cases c2 : ft K M A B C SZ R N j D (c + 1) = 0
        · rw [if_pos ((us0 _ cx _ cy).mpr ⟨c1, c2⟩)] at r5
          rw [ht_57_1, ch_57_1]; (try simp +decide (disch := omega) only [ni_bF, nI_clamp, nI_add, pk_mul, dc_ltT, dc_ltF, dc_leT, dc_leF, dc_eqF, dc_neT, dn_eq, dn_ne, dn_lt, dn_ge, si_at, si_c, si_k, ne_eq, not_false_eq_true, not_true_eq_false, ↓reduceIte, v42_ltT, v42_ltF, v42_gtT, v42_gtF, v42_leT, v42_leF, v42_geT, v42_geF, v42_eqT, v42_eqF, v42_add, v42_dda, v42_mul, v42_lum, v42_sub, v42_bad, v42_cl, v43_ltT, v43_ltF, v43_gtT, v43_gtF, v43_leT, v43_leF, v43_geT, v43_geF, v43_eqT, v43_eqF, v43_add, v43_dda, v43_mul, v43_lum, v43_sub, v43_bad, v43_cl, v45_ltT, v45_ltF, v45_gtT, v45_gtF, v45_leT, v45_leF, v45_geT, v45_geF, v45_eqT, v45_eqF, v45_add, v45_dda, v45_mul, v45_lum, v45_sub, v45_bad, v45_cl, v60_ltT, v60_ltF, v60_gtT, v60_gtF, v60_leT, v60_leF, v60_geT, v60_geF, v60_eqT, v60_eqF, v60_add, v60_dda, v60_mul, v60_lum, v60_sub, v60_bad, v60_cl, g1, g2, g3, g4, g5]); rw [sk_57_2_82, ht_57_3, ch_57_3]; (try simp +decide (disch := omega) only [ni_bF, nI_clamp, nI_add, pk_mul, dc_ltT, dc_ltF, dc_leT, dc_leF, dc_eqF, dc_neT, dn_eq, dn_ne, dn_lt, dn_ge, si_at, si_c, si_k, ne_eq, not_false_eq_true, not_true_eq_false, ↓reduceIte, v4_eqT, v4_eqF, v5_eqT, v5_eqF, v6_eqT, v6_eqF, v7_eqT, v7_eqF, v8_eqT, v8_eqF, v9_eqT, v9_eqF, v10_eqT, v10_eqF, v11_eqT, v11_eqF, v12_eqT, v12_eqF, v13_eqT, v13_eqF, v14_eqT, v14_eqF, v15_eqT, v15_eqF, v16_eqT, v16_eqF, v17_eqT, v17_eqF, v18_eqT, v18_eqF, v19_eqT, v19_eqF, v20_eqT, v20_eqF, v21_eqT, v21_eqF, v22_eqT, v22_eqF, v23_eqT, v23_eqF, g1, g2, g3, g4, g5]); rw [sk_57_4_269, ht_57_7, ch_57_8]; (try simp +decide (disch := omega) only [ni_bF, nI_clamp, nI_add, pk_mul, dc_ltT, dc_ltF, dc_leT, dc_leF, dc_eqF, dc_neT, dn_eq, dn_ne, dn_lt, dn_ge, si_at, si_c, si_k, ne_eq, not_false_eq_true, not_true_eq_false, ↓reduceIte, g1, g2, g3, g4, g5]); rw [r1, ev_rn, ch_57_15]; (try simp +decide (disch := omega) only [ni_bF, nI_clamp, nI_add, pk_mul, dc_ltT, dc_ltF, dc_leT, dc_leF, dc_eqF, dc_neT, dn_eq, dn_ne, dn_lt, dn_ge, si_at, si_c, si_k, ne_eq, not_false_eq_true, not_true_eq_false, ↓reduceIte, g1, g2, g3, g4, g5]); rw [r2, ev_rs, ch_57_21]; (try simp +decide (disch := omega) only [ni_bF, nI_clamp, nI_add, pk_mul, dc_ltT, dc_ltF, dc_leT, dc_leF, dc_eqF, dc_neT, dn_eq, dn_ne, dn_lt, dn_ge, si_at, si_c, si_k, ne_eq, not_false_eq_true, not_true_eq_false, ↓reduceIte, v1_ltT, v1_ltF, v1_gtT, v1_gtF, v1_leT, v1_leF, v1_geT, v1_geF, v1_eqT, v1_eqF, v1_add, v1_dda, v1_mul, v1_lum, v1_sub, v1_bad, v1_cl, g1, g2, g3, g4, g5]); rw [r3, ev_rs, ch_57_25]; (try simp +decide (disch := omega) only [ni_bF, nI_clamp, nI_add, pk_mul, dc_ltT, dc_ltF, dc_leT, dc_leF, dc_eqF, dc_neT, dn_eq, dn_ne, dn_lt, dn_ge, si_at, si_c, si_k, ne_eq, not_false_eq_true, not_true_eq_false, ↓reduceIte, v0_ltT, v0_ltF, v0_gtT, v0_gtF, v0_leT, v0_leF, v0_geT, v0_geF, v0_eqT, v0_eqF, v0_add, v0_dda, v0_mul, v0_lum, v0_sub, v0_bad, v0_cl, g1, g2, g3, g4, g5]); rw [if_neg (fun e => (uk_0 _ cx).2.2.mp e c1), if_pos ((uk_0 _ cy).2.1.mpr c2), sk_57_8_340, ht_57_9, ch_57_27, ht_57_10, ch_57_28, r5, ev_rn, ch_57_29, sk_57_11_407, ht_57_14, ch_57_30]
        · rw [if_neg (fun e => c2 ((us0 _ cx _ cy).mp e).2)] at r5
          rw [ht_57_1, ch_57_1]; (try simp +decide (disch := omega) only [ni_bF, nI_clamp, nI_add, pk_mul, dc_ltT, dc_ltF, dc_leT, dc_leF, dc_eqF, dc_neT, dn_eq, dn_ne, dn_lt, dn_ge, si_at, si_c, si_k, ne_eq, not_false_eq_true, not_true_eq_false, ↓reduceIte, v42_ltT, v42_ltF, v42_gtT, v42_gtF, v42_leT, v42_leF, v42_geT, v42_geF, v42_eqT, v42_eqF, v42_add, v42_dda, v42_mul, v42_lum, v42_sub, v42_bad, v42_cl, v43_ltT, v43_ltF, v43_gtT, v43_gtF, v43_leT, v43_leF, v43_geT, v43_geF, v43_eqT, v43_eqF, v43_add, v43_dda, v43_mul, v43_lum, v43_sub, v43_bad, v43_cl, v45_ltT, v45_ltF, v45_gtT, v45_gtF, v45_leT, v45_leF, v45_geT, v45_geF, v45_eqT, v45_eqF, v45_add, v45_dda, v45_mul, v45_lum, v45_sub, v45_bad, v45_cl, v60_ltT, v60_ltF, v60_gtT, v60_gtF, v60_leT, v60_leF, v60_geT, v60_geF, v60_eqT, v60_eqF, v60_add, v60_dda, v60_mul, v60_lum, v60_sub, v60_bad, v60_cl, g1, g2, g3, g4, g5]); rw [sk_57_2_82, ht_57_3, ch_57_3]; (try simp +decide (disch := omega) only [ni_bF, nI_clamp, nI_add, pk_mul, dc_ltT, dc_ltF, dc_leT, dc_leF, dc_eqF, dc_neT, dn_eq, dn_ne, dn_lt, dn_ge, si_at, si_c, si_k, ne_eq, not_false_eq_true, not_true_eq_false, ↓reduceIte, v4_eqT, v4_eqF, v5_eqT, v5_eqF, v6_eqT, v6_eqF, v7_eqT, v7_eqF, v8_eqT, v8_eqF, v9_eqT, v9_eqF, v10_eqT, v10_eqF, v11_eqT, v11_eqF, v12_eqT, v12_eqF, v13_eqT, v13_eqF, v14_eqT, v14_eqF, v15_eqT, v15_eqF, v16_eqT, v16_eqF, v17_eqT, v17_eqF, v18_eqT, v18_eqF, v19_eqT, v19_eqF, v20_eqT, v20_eqF, v21_eqT, v21_eqF, v22_eqT, v22_eqF, v23_eqT, v23_eqF, g1, g2, g3, g4, g5]); rw [sk_57_4_269, ht_57_7, ch_57_8]; (try simp +decide (disch := omega) only [ni_bF, nI_clamp, nI_add, pk_mul, dc_ltT, dc_ltF, dc_leT, dc_leF, dc_eqF, dc_neT, dn_eq, dn_ne, dn_lt, dn_ge, si_at, si_c, si_k, ne_eq, not_false_eq_true, not_true_eq_false, ↓reduceIte, g1, g2, g3, g4, g5]); rw [r1, ev_rn, ch_57_15]; (try simp +decide (disch := omega) only [ni_bF, nI_clamp, nI_add, pk_mul, dc_ltT, dc_ltF, dc_leT, dc_leF, dc_eqF, dc_neT, dn_eq, dn_ne, dn_lt, dn_ge, si_at, si_c, si_k, ne_eq, not_false_eq_true, not_true_eq_false, ↓reduceIte, g1, g2, g3, g4, g5]); rw [r2, ev_rs, ch_57_21]; (try simp +decide (disch := omega) only [ni_bF, nI_clamp, nI_add, pk_mul, dc_ltT, dc_ltF, dc_leT, dc_leF, dc_eqF, dc_neT, dn_eq, dn_ne, dn_lt, dn_ge, si_at, si_c, si_k, ne_eq, not_false_eq_true, not_true_eq_false, ↓reduceIte, v1_ltT, v1_ltF, v1_gtT, v1_gtF, v1_leT, v1_leF, v1_geT, v1_geF, v1_eqT, v1_eqF, v1_add, v1_dda, v1_mul, v1_lum, v1_sub, v1_bad, v1_cl, g1, g2, g3, g4, g5]); rw [r3, ev_rs, ch_57_25]; (try simp +decide (disch := omega) only [ni_bF, nI_clamp, nI_add, pk_mul, dc_ltT, dc_ltF, dc_leT, dc_leF, dc_eqF, dc_neT, dn_eq, dn_ne, dn_lt, dn_ge, si_at, si_c, si_k, ne_eq, not_false_eq_true, not_true_eq_false, ↓reduceIte, v0_ltT, v0_ltF, v0_gtT, v0_gtF, v0_leT, v0_leF, v0_geT, v0_geF, v0_eqT, v0_eqF, v0_add, v0_dda, v0_mul, v0_lum, v0_sub, v0_bad, v0_cl, g1, g2, g3, g4, g5]); rw [if_neg (fun e => (uk_0 _ cx).2.2.mp e c1), if_neg (fun e => c2 ((uk_0 _ cy).2.1.mp e)), ht_57_8, ch_57_26, sk_57_9_341, ht_57_10, ch_57_28, r5, ev_rn, ch_57_29, sk_57_11_407, ht_57_14, ch_57_30]
      · rw [if_neg (fun e => c1 ((us0 _ cx _ cy).mp e).1)] at r5
        rw [ht_57_1, ch_57_1]; (try simp +decide (disch := omega) only [ni_bF, nI_clamp, nI_add, pk_mul, dc_ltT, dc_ltF, dc_leT, dc_leF, dc_eqF, dc_neT, dn_eq, dn_ne, dn_lt, dn_ge, si_at, si_c, si_k, ne_eq, not_false_eq_true, not_true_eq_false, ↓reduceIte, v42_ltT, v42_ltF, v42_gtT, v42_gtF, v42_leT, v42_leF, v42_geT, v42_geF, v42_eqT, v42_eqF, v42_add, v42_dda, v42_mul, v42_lum, v42_sub, v42_bad, v42_cl, v43_ltT, v43_ltF, v43_gtT, v43_gtF, v43_leT, v43_leF, v43_geT, v43_geF, v43_eqT, v43_eqF, v43_add, v43_dda, v43_mul, v43_lum, v43_sub, v43_bad, v43_cl, v45_ltT, v45_ltF, v45_gtT, v45_gtF, v45_leT, v45_leF, v45_geT, v45_geF, v45_eqT, v45_eqF, v45_add, v45_dda, v45_mul, v45_lum, v45_sub, v45_bad, v45_cl, v60_ltT, v60_ltF, v60_gtT, v60_gtF, v60_leT, v60_leF, v60_geT, v60_geF, v60_eqT, v60_eqF, v60_add, v60_dda, v60_mul, v60_lum, v60_sub, v60_bad, v60_cl, g1, g2, g3, g4, g5]); rw [sk_57_2_82, ht_57_3, ch_57_3]; (try simp +decide (disch := omega) only [ni_bF, nI_clamp, nI_add, pk_mul, dc_ltT, dc_ltF, dc_leT, dc_leF, dc_eqF, dc_neT, dn_eq, dn_ne, dn_lt, dn_ge, si_at, si_c, si_k, ne_eq, not_false_eq_true, not_true_eq_false, ↓reduceIte, v4_eqT, v4_eqF, v5_eqT, v5_eqF, v6_eqT, v6_eqF, v7_eqT, v7_eqF, v8_eqT, v8_eqF, v9_eqT, v9_eqF, v10_eqT, v10_eqF, v11_eqT, v11_eqF, v12_eqT, v12_eqF, v13_eqT, v13_eqF, v14_eqT, v14_eqF, v15_eqT, v15_eqF, v16_eqT, v16_eqF, v17_eqT, v17_eqF, v18_eqT, v18_eqF, v19_eqT, v19_eqF, v20_eqT, v20_eqF, v21_eqT, v21_eqF, v22_eqT, v22_eqF, v23_eqT, v23_eqF, g1, g2, g3, g4, g5]); rw [sk_57_4_269, ht_57_7, ch_57_8]; (try simp +decide (disch := omega) only [ni_bF, nI_clamp, nI_add, pk_mul, dc_ltT, dc_ltF, dc_leT, dc_leF, dc_eqF, dc_neT, dn_eq, dn_ne, dn_lt, dn_ge, si_at, si_c, si_k, ne_eq, not_false_eq_true, not_true_eq_false, ↓reduceIte, g1, g2, g3, g4, g5]); rw [r1, ev_rn, ch_57_15]; (try simp +decide (disch := omega) only [ni_bF, nI_clamp, nI_add, pk_mul, dc_ltT, dc_ltF, dc_leT, dc_leF, dc_eqF, dc_neT, dn_eq, dn_ne, dn_lt, dn_ge, si_at, si_c, si_k, ne_eq, not_false_eq_true, not_true_eq_false, ↓reduceIte, g1, g2, g3, g4, g5]); rw [r2, ev_rs, ch_57_21]; (try simp +decide (disch := omega) only [ni_bF, nI_clamp, nI_add, pk_mul, dc_ltT, dc_ltF, dc_leT, dc_leF, dc_eqF, dc_neT, dn_eq, dn_ne, dn_lt, dn_ge, si_at, si_c, si_k, ne_eq, not_false_eq_true, not_true_eq_false, ↓reduceIte, v1_ltT, v1_ltF, v1_gtT, v1_gtF, v1_leT, v1_leF, v1_geT, v1_geF, v1_eqT, v1_eqF, v1_add, v1_dda, v1_mul, v1_lum, v1_sub, v1_bad, v1_cl, g1, g2, g3, g4, g5]); rw [r3, ev_rs, ch_57_25]; (try simp +decide (disch := omega) only [ni_bF, nI_clamp, nI_add, pk_mul, dc_ltT, dc_ltF, dc_leT, dc_leF, dc_eqF, dc_neT, dn_eq, dn_ne, dn_lt, dn_ge, si_at, si_c, si_k, ne_eq, not_false_eq_true, not_true_eq_false, ↓reduceIte, v0_ltT, v0_ltF, v0_gtT, v0_gtF, v0_leT, v0_leF, v0_geT, v0_geF, v0_eqT, v0_eqF, v0_add, v0_dda, v0_mul, v0_lum, v0_sub, v0_bad, v0_cl, g1, g2, g3, g4, g5]); rw [if_pos ((uk_0 _ cx).2.2.mpr c1), ht_57_8, ch_57_26, sk_57_9_341, ht_57_10, ch_57_28, r5, ev_rn, ch_57_29, sk_57_11_407, ht_57_14, ch_57_30]
    · have o2 := wf_ord w2
      have o3 := wf_ord w3
      rw [x, if_neg (by decide), if_neg (by decide), if_neg (by decide), if_neg (by decide), if_neg (by decide), if_neg (by decide), if_pos rfl, q3, q4, nn_n (by omega), nn_n (by omega)]
      obtain ⟨pa, pb, pc⟩ := rp.2.2.2.2.2.2.2.2.1 x
      rw [q3, nI_add] at pb
      rw [q4, nI_add] at pc
      have g1 := (fm_rd hs (c := 79) (by decide) (z + k)).trans pa
      have g2 := (fm_rd hs (c := 81) (by decide) (z + k)).trans pc
      have hG2 : ∀ t ∈ G, t < c := fun t ht => by have := hG t ht; omega
      have X1 := IHg _ _ _ _ _ _ _ 0 w2 (by omega) hG (by omega) (by decide)
      have X2 := IHg _ _ _ _ _ _ _ 0 w3 (by omega) hG2 (by omega) (by decide)
      obtain ⟨n, rfl⟩ : ∃ n', n = n' + 1 := ⟨n - 1, by omega⟩
      obtain ⟨h1, r1, s1⟩ := fm_call IH w3 (by omega) hNN hG2 (by omega) (by decide : (0 : Int32) ∈ us_dm) hv (fun t h3 h4 => hz t (by omega) h4) hr (by omega) (show 4 * f' + 5 ≤ d by omega) hs
      obtain ⟨h2, r2, s2⟩ := IH f1 g i s a c G 0 ρ T _ _ d n x2 x3 h1 w2 (by omega) hG (by omega) (by decide) (by rw [fm_at]; exact vs_next hv X2) (fun t h3 h4 => by rw [fm_at]; exact ft_vz (hz t h3 (by omega)) X2 (by omega) (fun e => by have := hG t e; omega)) hr hT (by omega) (by omega) s1
      refine ⟨h2, ?_, by rw [ft_pc X1 X2]; exact fm_two hv X2 X1 s2⟩
      have g3 := (fm_rd s1 (c := 80) (by decide) (z + k)).trans pb
      rcases y with y | y | y | y
      · rw [y] at g1
        rw [ht_57_1, ch_57_1]; (try simp +decide (disch := omega) only [ni_bF, nI_clamp, nI_add, pk_mul, dc_ltT, dc_ltF, dc_leT, dc_leF, dc_eqF, dc_neT, dn_eq, dn_ne, dn_lt, dn_ge, si_at, si_c, si_k, ne_eq, not_false_eq_true, not_true_eq_false, ↓reduceIte, v42_ltT, v42_ltF, v42_gtT, v42_gtF, v42_leT, v42_leF, v42_geT, v42_geF, v42_eqT, v42_eqF, v42_add, v42_dda, v42_mul, v42_lum, v42_sub, v42_bad, v42_cl, v43_ltT, v43_ltF, v43_gtT, v43_gtF, v43_leT, v43_leF, v43_geT, v43_geF, v43_eqT, v43_eqF, v43_add, v43_dda, v43_mul, v43_lum, v43_sub, v43_bad, v43_cl, v45_ltT, v45_ltF, v45_gtT, v45_gtF, v45_leT, v45_leF, v45_geT, v45_geF, v45_eqT, v45_eqF, v45_add, v45_dda, v45_mul, v45_lum, v45_sub, v45_bad, v45_cl, v60_ltT, v60_ltF, v60_gtT, v60_gtF, v60_leT, v60_leF, v60_geT, v60_geF, v60_eqT, v60_eqF, v60_add, v60_dda, v60_mul, v60_lum, v60_sub, v60_bad, v60_cl, g1, g2, g3]); rw [ht_57_2, ch_57_2]; (try simp +decide (disch := omega) only [ni_bF, nI_clamp, nI_add, pk_mul, dc_ltT, dc_ltF, dc_leT, dc_leF, dc_eqF, dc_neT, dn_eq, dn_ne, dn_lt, dn_ge, si_at, si_c, si_k, ne_eq, not_false_eq_true, not_true_eq_false, ↓reduceIte, g1, g2, g3]); rw [r1, ev_rn, ch_57_4]; (try simp +decide (disch := omega) only [ni_bF, nI_clamp, nI_add, pk_mul, dc_ltT, dc_ltF, dc_leT, dc_leF, dc_eqF, dc_neT, dn_eq, dn_ne, dn_lt, dn_ge, si_at, si_c, si_k, ne_eq, not_false_eq_true, not_true_eq_false, ↓reduceIte, g1, g2, g3]); rw [sk_57_3_6, lp_57_6]
        exact r2
      · rw [y] at g1
        rw [ht_57_1, ch_57_1]; (try simp +decide (disch := omega) only [ni_bF, nI_clamp, nI_add, pk_mul, dc_ltT, dc_ltF, dc_leT, dc_leF, dc_eqF, dc_neT, dn_eq, dn_ne, dn_lt, dn_ge, si_at, si_c, si_k, ne_eq, not_false_eq_true, not_true_eq_false, ↓reduceIte, v42_ltT, v42_ltF, v42_gtT, v42_gtF, v42_leT, v42_leF, v42_geT, v42_geF, v42_eqT, v42_eqF, v42_add, v42_dda, v42_mul, v42_lum, v42_sub, v42_bad, v42_cl, v43_ltT, v43_ltF, v43_gtT, v43_gtF, v43_leT, v43_leF, v43_geT, v43_geF, v43_eqT, v43_eqF, v43_add, v43_dda, v43_mul, v43_lum, v43_sub, v43_bad, v43_cl, v45_ltT, v45_ltF, v45_gtT, v45_gtF, v45_leT, v45_leF, v45_geT, v45_geF, v45_eqT, v45_eqF, v45_add, v45_dda, v45_mul, v45_lum, v45_sub, v45_bad, v45_cl, v60_ltT, v60_ltF, v60_gtT, v60_gtF, v60_leT, v60_leF, v60_geT, v60_geF, v60_eqT, v60_eqF, v60_add, v60_dda, v60_mul, v60_lum, v60_sub, v60_bad, v60_cl, g1, g2, g3]); rw [ht_57_2, ch_57_2]; (try simp +decide (disch := omega) only [ni_bF, nI_clamp, nI_add, pk_mul, dc_ltT, dc_ltF, dc_leT, dc_leF, dc_eqF, dc_neT, dn_eq, dn_ne, dn_lt, dn_ge, si_at, si_c, si_k, ne_eq, not_false_eq_true, not_true_eq_false, ↓reduceIte, g1, g2, g3]); rw [r1, ev_rn, ch_57_4]; (try simp +decide (disch := omega) only [ni_bF, nI_clamp, nI_add, pk_mul, dc_ltT, dc_ltF, dc_leT, dc_leF, dc_eqF, dc_neT, dn_eq, dn_ne, dn_lt, dn_ge, si_at, si_c, si_k, ne_eq, not_false_eq_true, not_true_eq_false, ↓reduceIte, g1, g2, g3]); rw [sk_57_3_6, lp_57_6]
        exact r2
      · rw [y] at g1
        rw [ht_57_1, ch_57_1]; (try simp +decide (disch := omega) only [ni_bF, nI_clamp, nI_add, pk_mul, dc_ltT, dc_ltF, dc_leT, dc_leF, dc_eqF, dc_neT, dn_eq, dn_ne, dn_lt, dn_ge, si_at, si_c, si_k, ne_eq, not_false_eq_true, not_true_eq_false, ↓reduceIte, v42_ltT, v42_ltF, v42_gtT, v42_gtF, v42_leT, v42_leF, v42_geT, v42_geF, v42_eqT, v42_eqF, v42_add, v42_dda, v42_mul, v42_lum, v42_sub, v42_bad, v42_cl, v43_ltT, v43_ltF, v43_gtT, v43_gtF, v43_leT, v43_leF, v43_geT, v43_geF, v43_eqT, v43_eqF, v43_add, v43_dda, v43_mul, v43_lum, v43_sub, v43_bad, v43_cl, v45_ltT, v45_ltF, v45_gtT, v45_gtF, v45_leT, v45_leF, v45_geT, v45_geF, v45_eqT, v45_eqF, v45_add, v45_dda, v45_mul, v45_lum, v45_sub, v45_bad, v45_cl, v60_ltT, v60_ltF, v60_gtT, v60_gtF, v60_leT, v60_leF, v60_geT, v60_geF, v60_eqT, v60_eqF, v60_add, v60_dda, v60_mul, v60_lum, v60_sub, v60_bad, v60_cl, g1, g2, g3]); rw [ht_57_2, ch_57_2]; (try simp +decide (disch := omega) only [ni_bF, nI_clamp, nI_add, pk_mul, dc_ltT, dc_ltF, dc_leT, dc_leF, dc_eqF, dc_neT, dn_eq, dn_ne, dn_lt, dn_ge, si_at, si_c, si_k, ne_eq, not_false_eq_true, not_true_eq_false, ↓reduceIte, g1, g2, g3]); rw [r1, ev_rn, ch_57_4]; (try simp +decide (disch := omega) only [ni_bF, nI_clamp, nI_add, pk_mul, dc_ltT, dc_ltF, dc_leT, dc_leF, dc_eqF, dc_neT, dn_eq, dn_ne, dn_lt, dn_ge, si_at, si_c, si_k, ne_eq, not_false_eq_true, not_true_eq_false, ↓reduceIte, g1, g2, g3]); rw [sk_57_3_6, lp_57_6]
        exact r2
      · rw [y] at g1
        rw [ht_57_1, ch_57_1]; (try simp +decide (disch := omega) only [ni_bF, nI_clamp, nI_add, pk_mul, dc_ltT, dc_ltF, dc_leT, dc_leF, dc_eqF, dc_neT, dn_eq, dn_ne, dn_lt, dn_ge, si_at, si_c, si_k, ne_eq, not_false_eq_true, not_true_eq_false, ↓reduceIte, v42_ltT, v42_ltF, v42_gtT, v42_gtF, v42_leT, v42_leF, v42_geT, v42_geF, v42_eqT, v42_eqF, v42_add, v42_dda, v42_mul, v42_lum, v42_sub, v42_bad, v42_cl, v43_ltT, v43_ltF, v43_gtT, v43_gtF, v43_leT, v43_leF, v43_geT, v43_geF, v43_eqT, v43_eqF, v43_add, v43_dda, v43_mul, v43_lum, v43_sub, v43_bad, v43_cl, v45_ltT, v45_ltF, v45_gtT, v45_gtF, v45_leT, v45_leF, v45_geT, v45_geF, v45_eqT, v45_eqF, v45_add, v45_dda, v45_mul, v45_lum, v45_sub, v45_bad, v45_cl, v60_ltT, v60_ltF, v60_gtT, v60_gtF, v60_leT, v60_leF, v60_geT, v60_geF, v60_eqT, v60_eqF, v60_add, v60_dda, v60_mul, v60_lum, v60_sub, v60_bad, v60_cl, g1, g2, g3]); rw [ht_57_2, ch_57_2]; (try simp +decide (disch := omega) only [ni_bF, nI_clamp, nI_add, pk_mul, dc_ltT, dc_ltF, dc_leT, dc_leF, dc_eqF, dc_neT, dn_eq, dn_ne, dn_lt, dn_ge, si_at, si_c, si_k, ne_eq, not_false_eq_true, not_true_eq_false, ↓reduceIte, g1, g2, g3]); rw [r1, ev_rn, ch_57_4]; (try simp +decide (disch := omega) only [ni_bF, nI_clamp, nI_add, pk_mul, dc_ltT, dc_ltF, dc_leT, dc_leF, dc_eqF, dc_neT, dn_eq, dn_ne, dn_lt, dn_ge, si_at, si_c, si_k, ne_eq, not_false_eq_true, not_true_eq_false, ↓reduceIte, g1, g2, g3]); rw [sk_57_3_6, lp_57_6]
        exact r2
    · rw [x, if_neg (by decide), if_neg (by decide), if_neg (by decide), if_neg (by decide), if_neg (by decide), if_neg (by decide), if_neg (by decide), if_pos rfl]
      have g1 := (fm_rd hs (c := 79) (by decide) (z + k)).trans (rp.2.2.2.2.2.2.2.2.2 x).1
      obtain ⟨h1, r1, s1⟩ := fm_app hR IH hzb hf2 hNT e7 hRm hnd hP hrp w0 hk hNN hG hb hD hv hz hr hT (show 4 * f + 3 ≤ d by omega) hs x
      refine ⟨h1, ?_, s1⟩
      rw [ht_57_1, ch_57_1]; (try simp +decide (disch := omega) only [ni_bF, nI_clamp, nI_add, pk_mul, dc_ltT, dc_ltF, dc_leT, dc_leF, dc_eqF, dc_neT, dn_eq, dn_ne, dn_lt, dn_ge, si_at, si_c, si_k, ne_eq, not_false_eq_true, not_true_eq_false, ↓reduceIte, v42_ltT, v42_ltF, v42_gtT, v42_gtF, v42_leT, v42_leF, v42_geT, v42_geF, v42_eqT, v42_eqF, v42_add, v42_dda, v42_mul, v42_lum, v42_sub, v42_bad, v42_cl, v43_ltT, v43_ltF, v43_gtT, v43_gtF, v43_leT, v43_leF, v43_geT, v43_geF, v43_eqT, v43_eqF, v43_add, v43_dda, v43_mul, v43_lum, v43_sub, v43_bad, v43_cl, v45_ltT, v45_ltF, v45_gtT, v45_gtF, v45_leT, v45_leF, v45_geT, v45_geF, v45_eqT, v45_eqF, v45_add, v45_dda, v45_mul, v45_lum, v45_sub, v45_bad, v45_cl, v60_ltT, v60_ltF, v60_gtT, v60_gtF, v60_leT, v60_leF, v60_geT, v60_geF, v60_eqT, v60_eqF, v60_add, v60_dda, v60_mul, v60_lum, v60_sub, v60_bad, v60_cl, g1]); rw [sk_57_2_82, ht_57_3, ch_57_3]; (try simp +decide (disch := omega) only [ni_bF, nI_clamp, nI_add, pk_mul, dc_ltT, dc_ltF, dc_leT, dc_leF, dc_eqF, dc_neT, dn_eq, dn_ne, dn_lt, dn_ge, si_at, si_c, si_k, ne_eq, not_false_eq_true, not_true_eq_false, ↓reduceIte, v4_eqT, v4_eqF, v5_eqT, v5_eqF, v6_eqT, v6_eqF, v7_eqT, v7_eqF, v8_eqT, v8_eqF, v9_eqT, v9_eqF, v10_eqT, v10_eqF, v11_eqT, v11_eqF, v12_eqT, v12_eqF, v13_eqT, v13_eqF, v14_eqT, v14_eqF, v15_eqT, v15_eqF, v16_eqT, v16_eqF, v17_eqT, v17_eqF, v18_eqT, v18_eqF, v19_eqT, v19_eqF, v20_eqT, v20_eqF, v21_eqT, v21_eqF, v22_eqT, v22_eqF, v23_eqT, v23_eqF, g1]); rw [sk_57_4_395, ht_57_13, ch_57_11, r1, ev_rn, ch_57_18, ht_57_14, ch_57_6]
end EM
