/-! the reference's read behind its faults -/
section TL
variable {h hM : Nat → Nat → Int32} {g gM : Nat → Nat → Int64} {rd : Nat}
theorem rt_fail (C : am_C) {x1 x2 : Int32} (nn : Nat) (nz : hM 73 26 ≠ 0) : am_fwd C (am_run C tb_r46_0 nn) tb_r46_10 273 [(2, .int x2), (1, .int x1), (0, .ref 73)] [] (pr_S, hM, gM) = some (some (.int (-10 - hM 73 26)), (pr_S, am_si hM 73 28 (hM 73 27), gM)) := by
  have nz' : (am_si hM 73 28 (hM 73 27)) 73 26 ≠ 0 := by rw [am_si_off (by decide)]; exact nz
  rw [ht_46_10, ch_46_13]; (try simp +decide (disch := omega) only [ni_bF, nI_clamp, nI_add, pk_mul, dc_ltT, dc_ltF, dc_leT, dc_leF, dc_eqF, dc_neT, dn_eq, dn_ne, dn_lt, dn_ge, si_at, si_c, si_k, q_at_nI, q_put_nI, ne_eq, not_false_eq_true, not_true_eq_false, ↓reduceIte, v0_ltT, v0_ltF, v0_gtT, v0_gtF, v0_leT, v0_leF, v0_geT, v0_geF, v0_eqT, v0_eqF, v0_add, v0_dda, v0_mul, v0_lum, v0_sub, v0_bad, v0_cl]); rw [if_pos nz, ht_46_11, ch_46_17, ht_46_12, ch_46_18]; (try simp +decide (disch := omega) only [ni_bF, nI_clamp, nI_add, pk_mul, dc_ltT, dc_ltF, dc_leT, dc_leF, dc_eqF, dc_neT, dn_eq, dn_ne, dn_lt, dn_ge, si_at, si_c, si_k, q_at_nI, q_put_nI, ne_eq, not_false_eq_true, not_true_eq_false, ↓reduceIte, v0_ltT, v0_ltF, v0_gtT, v0_gtF, v0_leT, v0_leF, v0_geT, v0_geF, v0_eqT, v0_eqF, v0_add, v0_dda, v0_mul, v0_lum, v0_sub, v0_bad, v0_cl]); rw [if_neg nz]
theorem rt_rows (C : am_C) : ∀ (m i : Nat), i + m = 192 → ∀ h, (∀ c, c ≠ 97 → c ≠ 98 → h c = hM c) → (∀ k, k < i → h 97 k = 0 ∧ h 98 k = 0) → ∃ h', (∀ c, c ≠ 97 → c ≠ 98 → h' c = hM c) ∧ (∀ k, k < 192 → h' 97 k = 0 ∧ h' 98 k = 0) ∧ ∀ nn R, m + 900000 ≤ nn → (∀ x1 x2 : Int32, am_fwd C (am_run C tb_r46_0 900000) tb_r46_15 344 [(2, .int x2), (1, .int x1), (0, .ref 73)] [] (pr_S, h', gM) = some R) → ∀ x1 : Int32, am_fwd C (am_run C tb_r46_0 nn) tb_r46_14 317 [(2, .int (nI i)), (1, .int x1), (0, .ref 73)] [] (pr_S, h, gM) = some R := by
  intro m
  induction m with
  | zero =>
    intro i e h a b
    obtain rfl : i = 192 := by omega
    refine ⟨h, a, b, fun nn R hn hR x1 => ?_⟩
    rw [ht_46_14, ch_46_25]; try simp +decide (disch := omega) only [ni_bF, nI_clamp, nI_add, pk_mul, dc_ltT, dc_ltF, dc_leT, dc_leF, dc_eqF, dc_neT, dn_eq, dn_ne, dn_lt, dn_ge, si_at, si_c, si_k, q_at_nI, q_put_nI, ne_eq, not_false_eq_true, not_true_eq_false, ↓reduceIte, v0_ltT, v0_ltF, v0_gtT, v0_gtF, v0_leT, v0_leF, v0_geT, v0_geF, v0_eqT, v0_eqF, v0_add, v0_dda, v0_mul, v0_lum, v0_sub, v0_bad, v0_cl, v1_ltT, v1_ltF, v1_gtT, v1_gtF, v1_leT, v1_leF, v1_geT, v1_geF, v1_eqT, v1_eqF, v1_add, v1_dda, v1_mul, v1_lum, v1_sub, v1_bad, v1_cl, v192_ltT, v192_ltF, v192_gtT, v192_gtF, v192_leT, v192_leF, v192_geT, v192_geF, v192_eqT, v192_eqF, v192_add, v192_dda, v192_mul, v192_lum, v192_sub, v192_bad, v192_cl]
    exact mo_f (by omega) (by repeat (first | exact trivial | refine And.intro rfl ?_)) rfl (hR _ _)
  | succ m ih =>
    intro i e h a b
    obtain ⟨h', v1, v2, v3⟩ := ih (i + 1) (by omega) (am_si (am_si h 97 i 0) 98 i 0) (fun c q1 q2 => by rw [am_si_ne q2, am_si_ne q1]; exact a c q1 q2) (fun k hk => by
      by_cases ee : k = i
      · subst ee; rw [am_si_at, am_si_ne (by decide), am_si_at]; exact ⟨rfl, rfl⟩
      · exact ⟨by rw [am_si_ne (by decide), am_si_off (by omega)]; exact (b k (by omega)).1, by rw [am_si_off (by omega), am_si_ne (by decide)]; exact (b k (by omega)).2⟩)
    refine ⟨h', v1, v2, fun nn R hn hR x1 => ?_⟩
    obtain ⟨q, rfl⟩ : ∃ q, nn = q + 1 := ⟨nn - 1, by omega⟩
    have p := v3 q R (by omega) hR x1
    rw [ht_46_14, ch_46_25]; (try simp +decide (disch := omega) only [ni_bF, nI_clamp, nI_add, pk_mul, dc_ltT, dc_ltF, dc_leT, dc_leF, dc_eqF, dc_neT, dn_eq, dn_ne, dn_lt, dn_ge, si_at, si_c, si_k, q_at_nI, q_put_nI, ne_eq, not_false_eq_true, not_true_eq_false, ↓reduceIte, v0_ltT, v0_ltF, v0_gtT, v0_gtF, v0_leT, v0_leF, v0_geT, v0_geF, v0_eqT, v0_eqF, v0_add, v0_dda, v0_mul, v0_lum, v0_sub, v0_bad, v0_cl, v1_ltT, v1_ltF, v1_gtT, v1_gtF, v1_leT, v1_leF, v1_geT, v1_geF, v1_eqT, v1_eqF, v1_add, v1_dda, v1_mul, v1_lum, v1_sub, v1_bad, v1_cl, v192_ltT, v192_ltF, v192_gtT, v192_gtF, v192_leT, v192_leF, v192_geT, v192_geF, v192_eqT, v192_eqF, v192_add, v192_dda, v192_mul, v192_lum, v192_sub, v192_bad, v192_cl]); rw [sk_46_15_317, lp_46_317]
    exact p
theorem fl_other {r i c : Nat} {v : Int32} (q : c ≠ r) : fl_h h r v i c = h c := by
  funext x
  exact if_neg (fun z => q z.1)
/-- no FAULT: the other half is the PROGRAM from now on -/
theorem rt_good (d : Nat) (hrd : rd < 2) (h25 : hM 73 25 = nI rd) (z : hM 73 26 = 0) : ∃ h', (∀ c, c ≠ 97 → c ≠ 98 → h' c = (am_si (am_si hM 73 28 (-1)) 73 7 (nI rd)) c) ∧ (∀ k, k < 192 → h' 97 k = 0 ∧ h' 98 k = 0) ∧ ∀ x1 x2 : Int32, am_fwd (am_call tb_P (d + 1)) (am_run (am_call tb_P (d + 1)) tb_r46_0 960000) tb_r46_10 273 [(2, .int x2), (1, .int x1), (0, .ref 73)] [] (pr_S, hM, gM) = some (some (.int (hM 85 rd)), (pr_S, am_si (fl_h (fl_h (am_si h' 73 36 0) 127 0 200) 128 0 7) 73 74 0, gM)) := by
  obtain ⟨h', v1, v2, v3⟩ := rt_rows (hM := am_si (am_si hM 73 28 (-1)) 73 7 (nI rd)) (gM := gM) (am_call tb_P (d + 1)) 192 0 rfl (am_si (am_si hM 73 28 (-1)) 73 7 (nI rd)) (fun _ _ _ => rfl) (fun k hk => absurd hk (by omega))
  refine ⟨h', v1, v2, fun x1 x2 => ?_⟩
  have m7 : (am_si (fl_h (fl_h (am_si h' 73 36 0) 127 0 200) 128 0 7) 73 74 0) 73 7 = nI rd := by
    rw [am_si_off (by decide), fl_other (by decide), fl_other (by decide), am_si_off (by decide), v1 _ (by decide) (by decide), am_si_at]
  have ms : (am_si (fl_h (fl_h (am_si h' 73 36 0) 127 0 200) 128 0 7) 73 74 0) 85 rd = hM 85 rd := by
    rw [am_si_ne (by decide), fl_other (by decide), fl_other (by decide), am_si_ne (by decide), v1 _ (by decide) (by decide), am_si_ne (by decide), am_si_ne (by decide)]
  have fg := em_forget d (am_si h' 73 36 0) gM
  have p344 : ∀ x1 x2 : Int32, am_fwd (am_call tb_P (d + 1)) (am_run (am_call tb_P (d + 1)) tb_r46_0 900000) tb_r46_15 344 [(2, .int x2), (1, .int x1), (0, .ref 73)] [] (pr_S, h', gM) = some (some (.int (hM 85 rd)), (pr_S, am_si (fl_h (fl_h (am_si h' 73 36 0) 127 0 200) 128 0 7) 73 74 0, gM)) := fun x1 x2 => by
    rw [ht_46_15, ch_46_30, fg, ev_rn, ch_46_34]
    rw [m7, if_neg (nI_in (by omega) (by decide)), nI_clamp (by omega), ms]
  have p := v3 960000 _ (by omega) p344 x1
  have z' : (am_si hM 73 28 (-1)) 73 26 = 0 := by rw [am_si_off (by decide)]; exact z
  rw [ht_46_10, ch_46_13]; (try simp +decide (disch := omega) only [ni_bF, nI_clamp, nI_add, pk_mul, dc_ltT, dc_ltF, dc_leT, dc_leF, dc_eqF, dc_neT, dn_eq, dn_ne, dn_lt, dn_ge, si_at, si_c, si_k, q_at_nI, q_put_nI, ne_eq, not_false_eq_true, not_true_eq_false, ↓reduceIte, v0_ltT, v0_ltF, v0_gtT, v0_gtF, v0_leT, v0_leF, v0_geT, v0_geF, v0_eqT, v0_eqF, v0_add, v0_dda, v0_mul, v0_lum, v0_sub, v0_bad, v0_cl, h25, z]); rw [sk_46_11_289, ht_46_12, ch_46_18]; (try simp +decide (disch := omega) only [ni_bF, nI_clamp, nI_add, pk_mul, dc_ltT, dc_ltF, dc_leT, dc_leF, dc_eqF, dc_neT, dn_eq, dn_ne, dn_lt, dn_ge, si_at, si_c, si_k, q_at_nI, q_put_nI, ne_eq, not_false_eq_true, not_true_eq_false, ↓reduceIte, v0_ltT, v0_ltF, v0_gtT, v0_gtF, v0_leT, v0_leF, v0_geT, v0_geF, v0_eqT, v0_eqF, v0_add, v0_dda, v0_mul, v0_lum, v0_sub, v0_bad, v0_cl, h25, z]); rw [ht_46_13, ch_46_21]
  rw [show (am_si hM 73 28 (-1)) 73 25 = nI rd by rw [am_si_off (by decide)]; exact h25]
  exact p
end TL
