/-! settle: the class's NEEDS come to what the reference counted -/
theorem nd_le {F : Nat → Int32} {τ : Nat → Nat} {b m : Nat} : ∀ {n : Nat}, m ≤ n → nd_s F τ b m ≤ nd_s F τ b n
  | 0, h => by rw [show m = 0 by omega]; exact Nat.le_refl _
  | n + 1, h => by
    by_cases c : m = n + 1
    · rw [c]; exact Nat.le_refl _
    · have := nd_le (F := F) (τ := τ) (b := b) (m := m) (n := n) (by omega)
      rw [show nd_s F τ b (n + 1) = nd_s F τ b n + (if F n = nI b then τ n else 0) from rfl]
      omega
theorem st_loop (C : am_C) (d nb cn : Nat) (hC : C = am_call tb_P (d + 1)) (hnb : nb ≤ 20100) (hcn : cn < 2 ^ 30) (h0 : Nat → Nat → Int32) (hl : Nat → Nat → Int64) (τ κ κ' : Nat → Nat) (hF : ∀ b, b < nb → sr_o b (h0 51 b)) (hT : ∀ b, b < nb → sr_o 200 (h0 49 b)) (hτ : ∀ b, b < nb → nd_s (h0 51) τ b nb ≤ τ b ∧ τ b ≤ cn) (hκ : ∀ t, t < 200 → κ t ≤ κ' t ∧ κ' t ≤ cn ∧ (∀ b, b < nb → h0 49 b = nI t → τ b ≤ κ' t) ∧ (κ' t = κ t ∨ ∃ b, b < nb ∧ h0 49 b = nI t ∧ τ b = κ' t)) : ∀ (i n : Nat) (h : Nat → Nat → Int32), i ≤ nb → i ≤ n → (∀ c, c ≠ 53 → c ≠ 47 → h c = h0 c) → (∀ b, b < i → h 53 b = nI (τ b - nd_s (h0 51) τ b i)) → (∀ t, t < 200 → ∃ γ, h 47 t = nI γ ∧ κ t ≤ γ ∧ γ ≤ κ' t ∧ ∀ b, i ≤ b → b < nb → h0 49 b = nI t → τ b ≤ γ) →
    ∃ h', am_fwd C (am_run C tb_r96_0 n) tb_r96_1 13 [(2, .int (nI i - 1)), (0, .ref 48), (1, .ref 47)] [] (pr_S, h, hl) = some (none, (pr_S, h', hl)) ∧ (∀ c, c ≠ 53 → c ≠ 47 → h' c = h0 c) ∧ (∀ t, t < 200 → h' 47 t = nI (κ' t)) := by
  subst hC
  intro i
  induction i with
  | zero =>
    intro n h h1 h2 h3 h4 h5
    refine ⟨h, ?_, h3, fun t ht => ?_⟩
    · rw [ht_96_1, ch_96_2, if_pos (by decide), sk_96_2_91, ht_96_4, ch_96_3]
    · obtain ⟨γ, g1, g2, g3, g4⟩ := h5 t ht
      obtain ⟨k1, k2, k3, k4⟩ := hκ t ht
      rw [g1]
      congr 1
      rcases k4 with k4 | ⟨b, b1, b2, b3⟩
      · omega
      · have := g4 b (Nat.zero_le _) b1 b2; omega
  | succ i ih =>
    intro n h h1 h2 h3 h4 h5
    obtain ⟨n, rfl⟩ : ∃ n', n = n' + 1 := ⟨n - 1, by omega⟩
    have z0 : nd_s (h0 51) τ i (i + 1) = 0 := nd_s0 (fun j hj => hF j (by omega)) (by omega) (i + 1) (Nat.le_refl _)
    have w0 : h 53 i = nI (τ i) := by rw [h4 i (by omega), z0, Nat.sub_zero]
    have tc := (hτ i (by omega)).2
    have e51 : h 51 = h0 51 := h3 _ (by decide) (by decide)
    have e49 : h 49 = h0 49 := h3 _ (by decide) (by decide)
    -- the heap behind the handing on
    have s1 : ∃ (h6 : Nat → Nat → Int32) (x3 : Int32), (∀ c, c ≠ 53 → h6 c = h c) ∧ (∀ b, b < i → h6 53 b = nI (τ b - nd_s (h0 51) τ b i)) ∧ h6 53 i = nI (τ i) ∧ am_fwd (am_call tb_P (d + 1)) (am_run (am_call tb_P (d + 1)) tb_r96_0 (n + 1)) tb_r96_1 13 [(2, .int (nI (i + 1) - 1)), (0, .ref 48), (1, .ref 47)] [] (pr_S, h, hl) = am_fwd (am_call tb_P (d + 1)) (am_run (am_call tb_P (d + 1)) tb_r96_0 (n + 1)) tb_r96_2 51 [(3, .int x3), (2, .int (nI i)), (0, .ref 48), (1, .ref 47)] [] (pr_S, h6, hl) := by
      rw [nI_pred]
      rcases hF i (by omega) with f | ⟨f, f1, f2⟩
      · refine ⟨h, -1, fun _ _ => rfl, fun b hb => ?_, w0, ?_⟩
        · rw [h4 b (by omega)]
          rw [show nd_s (h0 51) τ b (i + 1) = nd_s (h0 51) τ b i + (if h0 51 i = nI b then τ i else 0) from rfl, if_neg]
          · rfl
          · rw [f]; exact fun q => by rw [eq_comm, nl_m1 (by omega)] at q; exact q
        · rw [← e51] at f
          rw [ht_96_1, ch_96_2]; try simp +decide (disch := omega) only [ni_bF, nI_clamp, nI_add, pk_mul, dc_ltT, dc_ltF, dc_leT, dc_leF, dc_eqF, dc_neT, dn_eq, dn_ne, dn_lt, dn_ge, si_at, si_c, si_k, q_at_nI, q_put_nI, ne_eq, not_false_eq_true, not_true_eq_false, ↓reduceIte, v0_ltT, v0_ltF, v0_gtT, v0_gtF, v0_leT, v0_leF, v0_geT, v0_geF, v0_eqT, v0_eqF, v0_add, v0_dda, v0_mul, v0_lum, v0_sub, v0_bad, v0_cl, f]
      · refine ⟨am_si h 53 f (h 53 f + h 53 i), nI f, fun c hc => am_si_ne hc, fun b hb => ?_, by rw [am_si_off (by omega)]; exact w0, ?_⟩
        · have nx : nd_s (h0 51) τ b (i + 1) = nd_s (h0 51) τ b i + (if h0 51 i = nI b then τ i else 0) := rfl
          by_cases e : b = f
          · subst e
            rw [am_si_at, h4 b (by omega), w0, nI_add]
            congr 1
            have l1 := nd_le (F := h0 51) (τ := τ) (b := b) (m := i + 1) (n := nb) (by omega)
            have l2 := (hτ b (by omega)).1
            rw [if_pos f2] at nx
            omega
          · rw [am_si_off (by omega), h4 b (by omega)]
            rw [nx, if_neg (by rw [f2]; exact fun q => e ((nI_eq (by omega) (by omega)).mp q).symm)]
            rfl
        · rw [← e51] at f2
          rw [ht_96_1, ch_96_2]; (try simp +decide (disch := omega) only [ni_bF, nI_clamp, nI_add, pk_mul, dc_ltT, dc_ltF, dc_leT, dc_leF, dc_eqF, dc_neT, dn_eq, dn_ne, dn_lt, dn_ge, si_at, si_c, si_k, q_at_nI, q_put_nI, ne_eq, not_false_eq_true, not_true_eq_false, ↓reduceIte, v0_ltT, v0_ltF, v0_gtT, v0_gtF, v0_leT, v0_leF, v0_geT, v0_geF, v0_eqT, v0_eqF, v0_add, v0_dda, v0_mul, v0_lum, v0_sub, v0_bad, v0_cl, f2]); rw [at_53, ev_rs, ch_96_5]; (try simp +decide (disch := omega) only [ni_bF, nI_clamp, nI_add, pk_mul, dc_ltT, dc_ltF, dc_leT, dc_leF, dc_eqF, dc_neT, dn_eq, dn_ne, dn_lt, dn_ge, si_at, si_c, si_k, q_at_nI, q_put_nI, ne_eq, not_false_eq_true, not_true_eq_false, ↓reduceIte, v0_ltT, v0_ltF, v0_gtT, v0_gtF, v0_leT, v0_leF, v0_geT, v0_geF, v0_eqT, v0_eqF, v0_add, v0_dda, v0_mul, v0_lum, v0_sub, v0_bad, v0_cl, f2]); rw [put_53, ev_rn, ch_96_8]; try simp +decide (disch := omega) only [ni_bF, nI_clamp, nI_add, pk_mul, dc_ltT, dc_ltF, dc_leT, dc_leF, dc_eqF, dc_neT, dn_eq, dn_ne, dn_lt, dn_ge, si_at, si_c, si_k, q_at_nI, q_put_nI, ne_eq, not_false_eq_true, not_true_eq_false, ↓reduceIte, v0_ltT, v0_ltF, v0_gtT, v0_gtF, v0_leT, v0_leF, v0_geT, v0_geF, v0_eqT, v0_eqF, v0_add, v0_dda, v0_mul, v0_lum, v0_sub, v0_bad, v0_cl, f2]
    obtain ⟨h6, x3, a1, a2, a3, a4⟩ := s1
    rw [a4]
    have m1 : nI i + (-1) = nI i - 1 := by rw [Int32.sub_eq_add_neg]
    have e6 : h6 49 = h0 49 := by rw [a1 _ (by decide)]; exact e49
    rcases hT i (by omega) with t | ⟨t, t1, t2⟩
    · obtain ⟨h', l1, l2⟩ := ih n h6 (by omega) (by omega) (fun c z1 z2 => by rw [a1 c z1]; exact h3 c z1 z2) a2 (fun t0 ht0 => by
        obtain ⟨γ, g1, g2, g3, g4⟩ := h5 t0 ht0
        refine ⟨γ, by rw [a1 _ (by decide)]; exact g1, g2, g3, fun b y1 y2 y3 => ?_⟩
        by_cases e : b = i
        · subst e; rw [t] at y3; exact absurd y3 (fun q => by rw [eq_comm, nl_m1 (by omega)] at q; exact q)
        · exact g4 b (by omega) y2 y3)
      refine ⟨h', ?_, l2⟩
      rw [← e6] at t
      rw [ht_96_2, ch_96_4]; (try simp +decide (disch := omega) only [ni_bF, nI_clamp, nI_add, pk_mul, dc_ltT, dc_ltF, dc_leT, dc_leF, dc_eqF, dc_neT, dn_eq, dn_ne, dn_lt, dn_ge, si_at, si_c, si_k, q_at_nI, q_put_nI, ne_eq, not_false_eq_true, not_true_eq_false, ↓reduceIte, v0_ltT, v0_ltF, v0_gtT, v0_gtF, v0_leT, v0_leF, v0_geT, v0_geF, v0_eqT, v0_eqF, v0_add, v0_dda, v0_mul, v0_lum, v0_sub, v0_bad, v0_cl, t]); rw [ht_96_3, ch_96_6]; (try simp +decide (disch := omega) only [ni_bF, nI_clamp, nI_add, pk_mul, dc_ltT, dc_ltF, dc_leT, dc_leF, dc_eqF, dc_neT, dn_eq, dn_ne, dn_lt, dn_ge, si_at, si_c, si_k, q_at_nI, q_put_nI, ne_eq, not_false_eq_true, not_true_eq_false, ↓reduceIte, v0_ltT, v0_ltF, v0_gtT, v0_gtF, v0_leT, v0_leF, v0_geT, v0_geF, v0_eqT, v0_eqF, v0_add, v0_dda, v0_mul, v0_lum, v0_sub, v0_bad, v0_cl, t]); rw [sk_96_4_13, m1, lp_96_13]
      exact mo_f (Nat.le_refl _) (by repeat (first | exact trivial | refine And.intro rfl ?_)) rfl l1
    · obtain ⟨γ, g1, g2, g3, g4⟩ := h5 t t1
      have k := hκ t t1
      have k3 := k.2.2.1 i (by omega) t2
      have mx : us_max (nI γ) (nI (τ i)) = nI (max γ (τ i)) := nd_max (by omega) (by omega)
      obtain ⟨h', l1, l2⟩ := ih n (am_si h6 47 t (nI (max γ (τ i)))) (by omega) (by omega) (fun c z1 z2 => by rw [am_si_ne z2, a1 c z1]; exact h3 c z1 z2) (fun b hb => by rw [am_si_ne (by decide)]; exact a2 b hb) (fun t0 ht0 => by
        by_cases e : t0 = t
        · subst e
          refine ⟨max γ (τ i), am_si_at _ _ _ _, by omega, by omega, fun b y1 y2 y3 => ?_⟩
          by_cases e : b = i
          · subst e; omega
          · have := g4 b (by omega) y2 y3; omega
        · obtain ⟨γ', g1', g2', g3', g4'⟩ := h5 t0 ht0
          refine ⟨γ', by rw [am_si_off (by omega), a1 _ (by decide)]; exact g1', g2', g3', fun b y1 y2 y3 => ?_⟩
          by_cases y : b = i
          · subst y; rw [t2] at y3; exact absurd ((nI_eq (by omega) (by omega)).mp y3).symm e
          · exact g4' b (by omega) y2 y3)
      refine ⟨h', ?_, l2⟩
      rw [← e6] at t2
      have c6 : h6 47 t = nI γ := by rw [a1 _ (by decide)]; exact g1
      rw [ht_96_2, ch_96_4]; (try simp +decide (disch := omega) only [ni_bF, nI_clamp, nI_add, pk_mul, dc_ltT, dc_ltF, dc_leT, dc_leF, dc_eqF, dc_neT, dn_eq, dn_ne, dn_lt, dn_ge, si_at, si_c, si_k, q_at_nI, q_put_nI, ne_eq, not_false_eq_true, not_true_eq_false, ↓reduceIte, v0_ltT, v0_ltF, v0_gtT, v0_gtF, v0_leT, v0_leF, v0_geT, v0_geF, v0_eqT, v0_eqF, v0_add, v0_dda, v0_mul, v0_lum, v0_sub, v0_bad, v0_cl, t2, c6, a3]); rw [at_47, ev_rs, ch_96_7]; (try simp +decide (disch := omega) only [ni_bF, nI_clamp, nI_add, pk_mul, dc_ltT, dc_ltF, dc_leT, dc_leF, dc_eqF, dc_neT, dn_eq, dn_ne, dn_lt, dn_ge, si_at, si_c, si_k, q_at_nI, q_put_nI, ne_eq, not_false_eq_true, not_true_eq_false, ↓reduceIte, v0_ltT, v0_ltF, v0_gtT, v0_gtF, v0_leT, v0_leF, v0_geT, v0_geF, v0_eqT, v0_eqF, v0_add, v0_dda, v0_mul, v0_lum, v0_sub, v0_bad, v0_cl, t2, c6, a3]); rw [ch_96_10, put_47, ev_rn, ch_96_14]; (try simp +decide (disch := omega) only [ni_bF, nI_clamp, nI_add, pk_mul, dc_ltT, dc_ltF, dc_leT, dc_leF, dc_eqF, dc_neT, dn_eq, dn_ne, dn_lt, dn_ge, si_at, si_c, si_k, q_at_nI, q_put_nI, ne_eq, not_false_eq_true, not_true_eq_false, ↓reduceIte, v0_ltT, v0_ltF, v0_gtT, v0_gtF, v0_leT, v0_leF, v0_geT, v0_geF, v0_eqT, v0_eqF, v0_add, v0_dda, v0_mul, v0_lum, v0_sub, v0_bad, v0_cl, t2, c6, a3]); rw [ht_96_3, ch_96_6]; (try simp +decide (disch := omega) only [ni_bF, nI_clamp, nI_add, pk_mul, dc_ltT, dc_ltF, dc_leT, dc_leF, dc_eqF, dc_neT, dn_eq, dn_ne, dn_lt, dn_ge, si_at, si_c, si_k, q_at_nI, q_put_nI, ne_eq, not_false_eq_true, not_true_eq_false, ↓reduceIte, v0_ltT, v0_ltF, v0_gtT, v0_gtF, v0_leT, v0_leF, v0_geT, v0_geF, v0_eqT, v0_eqF, v0_add, v0_dda, v0_mul, v0_lum, v0_sub, v0_bad, v0_cl, t2, c6, a3]); rw [sk_96_4_13, show (if nI γ < nI (τ i) then nI (τ i) else nI γ) = nI (max γ (τ i)) from mx, m1, lp_96_13]
      exact mo_f (Nat.le_refl _) (by repeat (first | exact trivial | refine And.intro rfl ?_)) rfl l1
/-- settle, whole -/
theorem ea_settle (d nb cn cl : Nat) (h : Nat → Nat → Int32) (hl : Nat → Nat → Int64) (TT CR T' C' F' : Nat → Int32) (nc : Nat) (hnb : nb ≤ 20100) (hcn : cn + cl < 2 ^ 30) (hm : h 48 0 = nI nb) (hB : mr_B nb nc (h 49) (h 50) (h 51) T' C' F') (r : nd_R nb cn cl (-1) (h 49) (h 51) (h 53) TT (h 47) CR) :
    ∃ h', am_call tb_P (d + 2) 96 [.ref 48, .ref 47] (pr_S, h, hl) = some (none, (pr_S, h', hl)) ∧ (∀ c, c ≠ 53 → c ≠ 47 → h' c = h c) ∧ (∀ t, t < 200 → h' 47 t = CR t) := by
  obtain ⟨τ, ω, κ, κ', r1, r2⟩ := r
  have m1 : ∀ i : Nat, i < 2 ^ 31 → ¬ nI i = -1 := fun i hi q => by rw [nl_m1 hi] at q; exact q
  have q : ∀ b, b < nb → τ b = ω b + nd_s (h 51) τ b nb := fun b hb => by
    have := (r1 b hb).2.2.2.2.2
    rwa [if_neg (m1 b (by omega)), Nat.add_zero] at this
  obtain ⟨h', l1, l2, l3⟩ := st_loop (am_call tb_P (d + 1)) d nb (cn + cl) rfl hnb hcn h hl τ κ κ' (fun b hb => (hB b hb).2.2.2.2.2) (fun b hb => (hB b hb).2.2.2.1) (fun b hb => ⟨by have := q b hb; omega, by have := (r1 b hb).2.2.2.1; omega⟩) (fun t ht => ⟨(r2 t ht).2.2.2.2.1, (r2 t ht).2.2.2.1, (r2 t ht).2.2.2.2.2.1, (r2 t ht).2.2.2.2.2.2⟩) nb 999999 h (Nat.le_refl _) (by omega) (fun _ _ _ => rfl) (fun b hb => by
    rw [(r1 b hb).2.1]
    congr 1
    have := q b hb
    omega) (fun t ht => ⟨κ t, (r2 t ht).1, Nat.le_refl _, (r2 t ht).2.2.2.2.1, fun b y1 y2 _ => absurd y1 (by omega)⟩)
  refine ⟨h', ?_, l2, fun t ht => by rw [l3 t ht]; exact (r2 t ht).2.1.symm⟩
  rw [en_96, ht_96_0, ch_96_0, hm, if_neg (li_ngt (by omega) (by decide)), ch_96_1]
  exact l1
