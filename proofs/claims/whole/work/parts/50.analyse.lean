/-! rounds till nothing changes -/
def ra_N (hi : Nat → Nat → Int32) (nd : Nat) (sz L bd : Nat → Nat) (R : Nat → Int32) : Nat → Int32 := fun x => if x / 8 < nd ∧ x % 4 < sz (x / 8) then us_either (R x) (ft (hi 26) (hi 27) (hi 28) (hi 29) (hi 30) (hi 20) R 4000 (bd (x / 8)) (rd_D (x % 8 / 4)) (L (x / 8) + x % 4)) else R x
def ra_I (hi : Nat → Nat → Int32) (nd : Nat) (sz L bd : Nat → Nat) : Nat → (Nat → Int32) → Nat → Int32
  | 0, R => R
  | k + 1, R => ra_I hi nd sz L bd k (ra_N hi nd sz L bd R)
def ra_C (hi : Nat → Nat → Int32) (nd : Nat) (sz L bd : Nat → Nat) (R : Nat → Int32) : Prop := ∃ x, ra_N hi nd sz L bd R x ≠ R x
def ra_K (hi : Nat → Nat → Int32) (nd : Nat) (sz L bd : Nat → Nat) : Nat → (Nat → Int32) → Prop
  | 0, _ => False
  | k + 1, R => (¬ ra_C hi nd sz L bd R ∧ k = 0) ∨ (ra_C hi nd sz L bd R ∧ ra_K hi nd sz L bd k (ra_N hi nd sz L bd R))
def ra_t (a : Int32) : Nat := (uk_c a).toNatClampNeg + (if uk_d a = 0 then 0 else if uk_d a = 4 then 2 else 1)
theorem ra_t4 : ∀ a ∈ us_codes, ra_t a ≤ 4 := by decide +kernel
theorem ra_tu : ∀ a ∈ us_codes, ∀ b ∈ us_codes, us_either a b = a ∨ ra_t a < ra_t (us_either a b) := by decide +kernel
def ra_s (R : Nat → Int32) : Nat → Nat
  | 0 => 0
  | n + 1 => ra_s R n + ra_t (R n)
theorem ra_s4 {R : Nat → Int32} (h : ∀ i, R i ∈ us_codes) : ∀ n, ra_s R n ≤ 4 * n
  | 0 => Nat.le_refl _
  | n + 1 => by
    have := ra_s4 h n
    have := ra_t4 _ (h n)
    unfold ra_s
    omega
theorem ra_sl {R R' : Nat → Int32} : ∀ n, (∀ x, x < n → ra_t (R x) ≤ ra_t (R' x)) → ra_s R n ≤ ra_s R' n
  | 0, _ => Nat.le_refl _
  | n + 1, h => by
    have := ra_sl n (fun x hx => h x (by omega))
    have := h n (by omega)
    unfold ra_s
    omega
theorem ra_sx {R R' : Nat → Int32} {y : Nat} : ∀ n, (∀ x, x < n → ra_t (R x) ≤ ra_t (R' x)) → y < n → ra_t (R y) < ra_t (R' y) → ra_s R n < ra_s R' n
  | 0, _, h, _ => absurd h (Nat.not_lt_zero _)
  | n + 1, h, hy, hs => by
    by_cases c : y = n
    · have := ra_sl n (fun x hx => h x (by omega))
      subst c
      unfold ra_s
      omega
    · have := ra_sx n (fun x hx => h x (by omega)) (by omega) hs
      have := h n (by omega)
      unfold ra_s
      omega
section PG
variable {hi : Nat → Nat → Int32} {hl : Nat → Nat → Int64} {nd nt nn hf : Nat} {sz L bd st : Nat → Nat}
theorem ra_u : ∀ {k k' : Nat} {R : Nat → Int32}, ra_K hi nd sz L bd k R → ra_K hi nd sz L bd k' R → k = k'
  | 0, _, _, h, _ => h.elim
  | _ + 1, 0, _, _, h => h.elim
  | k + 1, k' + 1, R, h, h' => by
    rcases h with ⟨a, b⟩ | ⟨a, b⟩
    · rcases h' with ⟨c, d⟩ | ⟨c, d⟩
      · omega
      · exact absurd c a
    · rcases h' with ⟨c, d⟩ | ⟨c, d⟩
      · exact absurd a c
      · rw [ra_u b d]
/-- codes for every rows -/
theorem ra_ok (P : pg_I hi nd nt nn hf sz L bd st) {R : Nat → Int32} (hR : ∀ i, R i ∈ us_codes) (e u : Nat) (he : e < nd) : ft_g (pg_G (L e) (sz e)) (ft (hi 26) (hi 27) (hi 28) (hi 29) (hi 30) (hi 20) R 4000 (bd e) (rd_D u)) := by
  obtain ⟨p1, p2, p3, p4, p5, p6, p7, p8, p9, p10, p11, p12, p13, p14⟩ := P
  obtain ⟨q1, q2, q3, q4, q5, q6, q7, q8, q9, q10, ⟨f, g, q11, q12, q13⟩, q14⟩ := p12 e he
  have m1 : L (e + 1) ≤ L nd := pg_mono (sz := sz) (fun d hd => (p12 d hd).2.2.2.2.2.2.2.2.2.1) (by omega) (Nat.le_refl _)
  exact ft_good hR 4000 _ _ _ _ _ _ _ _ q13 (by omega) (fun t ht => (pg_Gb ht).2) (by omega) (rd_Dm u)
theorem ra_in (P : pg_I hi nd nt nn hf sz L bd st) {R : Nat → Int32} (hR : ∀ i, R i ∈ us_codes) : ∀ i, ra_N hi nd sz L bd R i ∈ us_codes := by
  intro x
  unfold ra_N
  split
  · next c =>
    have g := ra_ok P hR (x / 8) (x % 8 / 4) c.1
    obtain ⟨p1, p2, p3, p4, p5, p6, p7, p8, p9, p10, p11, p12, p13, p14⟩ := P
    have m1 : L (x / 8 + 1) ≤ L nd := pg_mono (sz := sz) (fun d hd => (p12 d hd).2.2.2.2.2.2.2.2.2.1) (by omega) (Nat.le_refl _)
    have := (p12 _ c.1).2.2.2.2.2.2.2.2.2.1
    exact us_either_in _ (hR x) _ ((g _).1 (by omega)).1
  · exact hR x
theorem ra_up (P : pg_I hi nd nt nn hf sz L bd st) {R : Nat → Int32} (hR : ∀ i, R i ∈ us_codes) (x : Nat) : ra_N hi nd sz L bd R x = R x ∨ ra_t (R x) < ra_t (ra_N hi nd sz L bd R x) := by
  unfold ra_N
  split
  · next c =>
    have g := ra_ok P hR (x / 8) (x % 8 / 4) c.1
    obtain ⟨p1, p2, p3, p4, p5, p6, p7, p8, p9, p10, p11, p12, p13, p14⟩ := P
    have m1 : L (x / 8 + 1) ≤ L nd := pg_mono (sz := sz) (fun d hd => (p12 d hd).2.2.2.2.2.2.2.2.2.1) (by omega) (Nat.le_refl _)
    have := (p12 _ c.1).2.2.2.2.2.2.2.2.2.1
    exact ra_tu _ (hR x) _ ((g _).1 (by omega)).1
  · exact Or.inl rfl
theorem ra_lt (P : pg_I hi nd nt nn hf sz L bd st) {R : Nat → Int32} (hR : ∀ i, R i ∈ us_codes) (c : ra_C hi nd sz L bd R) : ra_s R 192 < ra_s (ra_N hi nd sz L bd R) 192 := by
  obtain ⟨y, hy⟩ := c
  have y1 : y < 192 := by
    unfold ra_N at hy
    by_cases z : y / 8 < nd ∧ y % 4 < sz (y / 8)
    · have := P.1; omega
    · rw [if_neg z] at hy; exact absurd rfl hy
  exact ra_sx (R := R) (R' := ra_N hi nd sz L bd R) (y := y) 192 (fun x _ => by
    rcases ra_up P hR x with z | z
    · rw [z]; exact Nat.le_refl _
    · exact Nat.le_of_lt z) y1 ((ra_up P hR y).resolve_left hy)
theorem ra_ex (P : pg_I hi nd nt nn hf sz L bd st) (m : Nat) (hm : m = 192) : ∀ (q : Nat) (R : Nat → Int32), (∀ i, R i ∈ us_codes) → 4 * m ≤ ra_s R m + q → ∃ k, k ≤ q + 1 ∧ ra_K hi nd sz L bd k R := by
  intro q
  induction q with
  | zero =>
    intro R hR h
    by_cases c : ra_C hi nd sz L bd R
    · have s := ra_lt P hR c
      rw [← hm] at s
      have b := ra_s4 (ra_in P hR) m
      omega
    · exact ⟨1, by omega, Or.inl ⟨c, rfl⟩⟩
  | succ q ih =>
    intro R hR h
    by_cases c : ra_C hi nd sz L bd R
    · have s := ra_lt P hR c
      rw [← hm] at s
      obtain ⟨k, k1, k2⟩ := ih (ra_N hi nd sz L bd R) (ra_in P hR) (by omega)
      exact ⟨k + 1, by omega, Or.inr ⟨c, k2⟩⟩
    · exact ⟨1, by omega, Or.inl ⟨c, rfl⟩⟩
/-- the next rows, as a round of either side leaves them -/
theorem ra_eq {h f : Nat → Int32} (hf : ∀ e u i, e < nd → u < 2 → i < sz e → f (8 * e + 4 * u + i) = us_either (h (8 * e + 4 * u + i)) (ft (hi 26) (hi 27) (hi 28) (hi 29) (hi 30) (hi 20) h 4000 (bd e) (rd_D u) (L e + i))) (x : Nat) (c : x / 8 < nd ∧ x % 4 < sz (x / 8)) : f x = ra_N hi nd sz L bd h x := by
  have := hf (x / 8) (x % 8 / 4) (x % 4) c.1 (by omega) c.2
  rw [show 8 * (x / 8) + 4 * (x % 8 / 4) + x % 4 = x by omega] at this
  unfold ra_N
  rw [if_pos c]
  exact this
theorem ra_ch {h f : Nat → Int32} (P : pg_I hi nd nt nn hf sz L bd st) (hf : ∀ e u i, e < nd → u < 2 → i < sz e → f (8 * e + 4 * u + i) = us_either (h (8 * e + 4 * u + i)) (ft (hi 26) (hi 27) (hi 28) (hi 29) (hi 30) (hi 20) h 4000 (bd e) (rd_D u) (L e + i))) : (∃ r, r < 2 * nd ∧ cg_C h f sz r) ↔ ra_C hi nd sz L bd h := by
  have s4 : ∀ e, e < nd → sz e ≤ 4 := fun e he => (P.2.2.2.2.2.2.2.2.2.2.2.1 e he).2.1
  constructor
  · rintro ⟨r, h1, i, h2, h3⟩
    have := s4 (r / 2) (by omega)
    have e1 : (8 * (r / 2) + 4 * (r % 2) + i) / 8 = r / 2 := by omega
    have e2 : (8 * (r / 2) + 4 * (r % 2) + i) % 4 = i := by omega
    refine ⟨8 * (r / 2) + 4 * (r % 2) + i, ?_⟩
    rw [← ra_eq hf _ (by rw [e1, e2]; exact ⟨by omega, h2⟩)]
    exact Ne.symm h3
  · rintro ⟨x, hx⟩
    have c : x / 8 < nd ∧ x % 4 < sz (x / 8) := by
      apply Classical.byContradiction
      intro c
      unfold ra_N at hx
      rw [if_neg c] at hx
      exact hx rfl
    refine ⟨2 * (x / 8) + x % 8 / 4, by omega, x % 4, ?_, ?_⟩
    · rw [show (2 * (x / 8) + x % 8 / 4) / 2 = x / 8 by omega]; exact c.2
    · rw [show (2 * (x / 8) + x % 8 / 4) / 2 = x / 8 by omega, show (2 * (x / 8) + x % 8 / 4) % 2 = x % 8 / 4 by omega, show 8 * (x / 8) + 4 * (x % 8 / 4) + x % 4 = x by omega, ra_eq hf x c]
      exact Ne.symm hx
/-- the class's heap in analyse: R the rows -/
def ca_S (hi h : Nat → Nat → Int32) (R : Nat → Int32) (j : Nat) : Prop := (∀ c, c ≠ 0 → c ≠ 35 → (c < 36 ∨ 44 < c) → h c = hi c) ∧ (∀ x, x ≠ 9 → h 0 x = hi 0 x) ∧ h 0 9 = nI j ∧ h 36 = R ∧ (∀ t, t < 200 → h 41 t ∈ ([0, 1, 2] : List Int32))
theorem ca_loop (d : Nat) (P : pg_I hi nd nt nn hf sz L bd st) : ∀ (k : Nat) (R : Nat → Int32) (j n : Nat) (h : Nat → Nat → Int32), ra_K hi nd sz L bd k R → (∀ i, R i ∈ us_codes) → j + k < 1000 → k + 1 ≤ n → ca_S hi h R j →
    ∃ h', am_fwd (am_call tb_P (d + 7)) (am_run (am_call tb_P (d + 7)) tb_r6_0 n) tb_r6_1 9 [(2, .int (nI j)), (1, .int 1), (0, .ref 0)] [] (pr_S, h, hl) = some (some (.int (nI (j + k))), (pr_S, h', hl)) ∧ ca_S hi h' (ra_I hi nd sz L bd k R) (j + k) ∧ h' 35 5 = 1
  | 0, _, _, _, _, h, _, _, _, _ => h.elim
  | k + 1, R, j, n, h, hk, hR, hj, hn, s => by
    obtain ⟨n, rfl⟩ : ∃ n', n = n' + 1 := ⟨n - 1, by omega⟩
    have Ph : pg_I h nd nt nn hf sz L bd st := pg_fr (fun c hc => s.1 c (by unfold pg_c at hc; omega) (by unfold pg_c at hc; omega) (by unfold pg_c at hc; omega)) (by rw [s.1 73 (by decide) (by decide) (by decide)]) P
    obtain ⟨h1, r1, r2, r3, r4⟩ := cr_round (hl := hl) d Ph (by rw [s.2.2.2.1]; exact hR) s.2.2.2.2
    have P1 : pg_I h1 nd nt nn hf sz L bd st := pg_fr (fun c hc => r2 c (by unfold pg_c at hc; omega)) (by rw [r2 73 (by decide)]) Ph
    have pS := fun e he => (P1.2.2.2.2.2.2.2.2.2.2.2.1 e he)
    obtain ⟨x, c1, c2⟩ := ea_firstChange (hl := hl) (sz := sz) (d + 4) h1 P.1 P1.2.2.2.2.1 (fun e he => ⟨(pS e he).1, (pS e he).2.1⟩)
    have t1 := ea_takeRound (hl := hl) (sz := sz) (d + 4) h1 P.1 P1.2.2.2.2.1 (fun e he => ⟨(pS e he).1, (pS e he).2.1⟩)
    have hf : ∀ e u i, e < nd → u < 2 → i < sz e → h1 37 (8 * e + 4 * u + i) = us_either (R (8 * e + 4 * u + i)) (ft (hi 26) (hi 27) (hi 28) (hi 29) (hi 30) (hi 20) R 4000 (bd e) (rd_D u) (L e + i)) := by
      intro e u i a1 a2 a3
      rw [r3 e u i a1 a2 a3]
      unfold nx_u
      rw [s.2.2.2.1, s.1 26 (by decide) (by decide) (by decide), s.1 27 (by decide) (by decide) (by decide), s.1 28 (by decide) (by decide) (by decide), s.1 29 (by decide) (by decide) (by decide), s.1 30 (by decide) (by decide) (by decide), s.1 20 (by decide) (by decide) (by decide)]
    have hN : h1 36 = R := by rw [r2 36 (by decide)]; exact s.2.2.2.1
    rw [hN] at c2
    have ch := ra_ch P hf
    -- the rows behind it
    have s2 : ca_S hi (am_si (am_si (tk_h sz h1 nd 0) 35 5 1) 0 9 (nI (j + 1))) (ra_N hi nd sz L bd R) (j + 1) := by
      refine ⟨fun c z1 z2 z3 => ?_, fun x hx => ?_, am_si_at _ _ _ _, funext fun x => ?_, fun t ht => ?_⟩
      · rw [am_si_ne z1, am_si_ne z2, tk_c (by omega), r2 c (by omega)]; exact s.1 c z1 z2 z3
      · rw [am_si_off (by omega), am_si_ne (by decide), tk_c (by decide), r2 0 (by decide)]; exact s.2.1 x hx
      · rw [am_si_ne (by decide), am_si_ne (by decide)]
        unfold tk_h
        by_cases c : x / 8 < nd ∧ x % 4 < sz (x / 8)
        · rw [if_pos ⟨rfl, Or.inl c⟩, ra_eq hf x c]
        · rw [if_neg (fun z => by rcases z.2 with z | z; exact c z; omega), hN]
          unfold ra_N
          rw [if_neg c]
      · rw [am_si_ne (by decide), am_si_ne (by decide), tk_c (by decide)]; exact r4 t ht
    have g9 : tk_h sz h1 nd 0 0 9 = nI j := by rw [tk_c (by decide), r2 0 (by decide)]; exact s.2.2.1
    rcases hk with ⟨a, b⟩ | ⟨a, b⟩
    · subst b
      have x1 : x = -1 := by
        rcases c2 with ⟨z, _⟩ | ⟨r, z1, z2, z3, z4⟩
        · exact z
        · exact absurd (ch.mp ⟨r, z1, z3⟩) a
      refine ⟨_, ?_, s2, ?_⟩
      · rw [ht_6_1, ch_6_1]; (try simp +decide (disch := omega) only [ni_bF, nI_clamp, nI_add, pk_mul, dc_ltT, dc_ltF, dc_leT, dc_leF, dc_eqF, dc_neT, dn_eq, dn_ne, dn_lt, dn_ge, si_at, si_c, si_k, q_at_nI, q_put_nI, ne_eq, not_false_eq_true, not_true_eq_false, ↓reduceIte, v0_ltT, v0_ltF, v0_gtT, v0_gtF, v0_leT, v0_leF, v0_geT, v0_geF, v0_eqT, v0_eqF, v0_add, v0_dda, v0_mul, v0_lum, v0_sub, v0_bad, v0_cl, v1000_ltT, v1000_ltF, v1000_gtT, v1000_gtF, v1000_leT, v1000_leF, v1000_geT, v1000_geF, v1000_eqT, v1000_eqF, v1000_add, v1000_dda, v1000_mul, v1000_lum, v1000_sub, v1000_bad, v1000_cl]); rw [r1, ev_rn, ch_6_3, c1, ev_rs, ch_6_4]; (try simp +decide (disch := omega) only [ni_bF, nI_clamp, nI_add, pk_mul, dc_ltT, dc_ltF, dc_leT, dc_leF, dc_eqF, dc_neT, dn_eq, dn_ne, dn_lt, dn_ge, si_at, si_c, si_k, q_at_nI, q_put_nI, ne_eq, not_false_eq_true, not_true_eq_false, ↓reduceIte, v0_ltT, v0_ltF, v0_gtT, v0_gtF, v0_leT, v0_leF, v0_geT, v0_geF, v0_eqT, v0_eqF, v0_add, v0_dda, v0_mul, v0_lum, v0_sub, v0_bad, v0_cl]); rw [x1, if_pos (by decide), ht_6_2, ch_6_5, ht_6_3, ch_6_6, t1, ev_rn, ch_6_7]; (try simp +decide (disch := omega) only [ni_bF, nI_clamp, nI_add, pk_mul, dc_ltT, dc_ltF, dc_leT, dc_leF, dc_eqF, dc_neT, dn_eq, dn_ne, dn_lt, dn_ge, si_at, si_c, si_k, q_at_nI, q_put_nI, ne_eq, not_false_eq_true, not_true_eq_false, ↓reduceIte, v0_ltT, v0_ltF, v0_gtT, v0_gtF, v0_leT, v0_leF, v0_geT, v0_geF, v0_eqT, v0_eqF, v0_add, v0_dda, v0_mul, v0_lum, v0_sub, v0_bad, v0_cl, v1_ltT, v1_ltF, v1_gtT, v1_gtF, v1_leT, v1_leF, v1_geT, v1_geF, v1_eqT, v1_eqF, v1_add, v1_dda, v1_mul, v1_lum, v1_sub, v1_bad, v1_cl]); rw [sk_6_4_9, g9, lp_6_9]
        rw [nI_1]
        rw [ht_6_1, ch_6_1]; (try simp +decide (disch := omega) only [ni_bF, nI_clamp, nI_add, pk_mul, dc_ltT, dc_ltF, dc_leT, dc_leF, dc_eqF, dc_neT, dn_eq, dn_ne, dn_lt, dn_ge, si_at, si_c, si_k, q_at_nI, q_put_nI, ne_eq, not_false_eq_true, not_true_eq_false, ↓reduceIte, v0_ltT, v0_ltF, v0_gtT, v0_gtF, v0_leT, v0_leF, v0_geT, v0_geF, v0_eqT, v0_eqF, v0_add, v0_dda, v0_mul, v0_lum, v0_sub, v0_bad, v0_cl, v1000_ltT, v1000_ltF, v1000_gtT, v1000_gtF, v1000_leT, v1000_leF, v1000_geT, v1000_geF, v1000_eqT, v1000_eqF, v1000_add, v1000_dda, v1000_mul, v1000_lum, v1000_sub, v1000_bad, v1000_cl]); rw [sk_6_2_66, ht_6_4, ch_6_2]
        rw [am_si_at]
      · rw [am_si_ne (by decide)]; exact am_si_at _ _ _ _
    · have x1 : ¬ x < 0 := by
        rcases c2 with ⟨z, z2⟩ | ⟨r, z1, z2, z3, z4⟩
        · obtain ⟨r, y1, y2⟩ := ch.mpr a
          exact absurd y2 (z2 r y1)
        · rw [z2]; exact nI_pos (by have := P.1; omega)
      obtain ⟨h', l1, l2, l3⟩ := ca_loop d P k _ (j + 1) n _ b (ra_in P hR) (by omega) (by omega) s2
      refine ⟨h', ?_, ?_, l3⟩
      · rw [ht_6_1, ch_6_1]; (try simp +decide (disch := omega) only [ni_bF, nI_clamp, nI_add, pk_mul, dc_ltT, dc_ltF, dc_leT, dc_leF, dc_eqF, dc_neT, dn_eq, dn_ne, dn_lt, dn_ge, si_at, si_c, si_k, q_at_nI, q_put_nI, ne_eq, not_false_eq_true, not_true_eq_false, ↓reduceIte, v0_ltT, v0_ltF, v0_gtT, v0_gtF, v0_leT, v0_leF, v0_geT, v0_geF, v0_eqT, v0_eqF, v0_add, v0_dda, v0_mul, v0_lum, v0_sub, v0_bad, v0_cl, v1000_ltT, v1000_ltF, v1000_gtT, v1000_gtF, v1000_leT, v1000_leF, v1000_geT, v1000_geF, v1000_eqT, v1000_eqF, v1000_add, v1000_dda, v1000_mul, v1000_lum, v1000_sub, v1000_bad, v1000_cl]); rw [r1, ev_rn, ch_6_3, c1, ev_rs, ch_6_4]; (try simp +decide (disch := omega) only [ni_bF, nI_clamp, nI_add, pk_mul, dc_ltT, dc_ltF, dc_leT, dc_leF, dc_eqF, dc_neT, dn_eq, dn_ne, dn_lt, dn_ge, si_at, si_c, si_k, q_at_nI, q_put_nI, ne_eq, not_false_eq_true, not_true_eq_false, ↓reduceIte, v0_ltT, v0_ltF, v0_gtT, v0_gtF, v0_leT, v0_leF, v0_geT, v0_geF, v0_eqT, v0_eqF, v0_add, v0_dda, v0_mul, v0_lum, v0_sub, v0_bad, v0_cl]); rw [if_neg x1, sk_6_2_42, ht_6_3, ch_6_6, t1, ev_rn, ch_6_7]; (try simp +decide (disch := omega) only [ni_bF, nI_clamp, nI_add, pk_mul, dc_ltT, dc_ltF, dc_leT, dc_leF, dc_eqF, dc_neT, dn_eq, dn_ne, dn_lt, dn_ge, si_at, si_c, si_k, q_at_nI, q_put_nI, ne_eq, not_false_eq_true, not_true_eq_false, ↓reduceIte, v0_ltT, v0_ltF, v0_gtT, v0_gtF, v0_leT, v0_leF, v0_geT, v0_geF, v0_eqT, v0_eqF, v0_add, v0_dda, v0_mul, v0_lum, v0_sub, v0_bad, v0_cl, v1_ltT, v1_ltF, v1_gtT, v1_gtF, v1_leT, v1_leF, v1_geT, v1_geF, v1_eqT, v1_eqF, v1_add, v1_dda, v1_mul, v1_lum, v1_sub, v1_bad, v1_cl]); rw [sk_6_4_9, g9, lp_6_9]
        rw [nI_1, show j + (k + 1) = j + 1 + k by omega]
        exact l1
      · rw [show j + (k + 1) = j + 1 + k by omega]
        exact l2
theorem ca_analyse (d : Nat) (P : pg_I hi nd nt nn hf sz L bd st) (hR : ∀ i, hi 36 i ∈ us_codes) (hse : ∀ t, t < 200 → hi 41 t ∈ ([0, 1, 2] : List Int32)) : ∃ k h', k < 1000 ∧ ra_K hi nd sz L bd k (hi 36) ∧ am_call tb_P (d + 8) 6 [.ref 0] (pr_S, hi, hl) = some (some (.int (nI k)), (pr_S, h', hl)) ∧ ca_S hi h' (ra_I hi nd sz L bd k (hi 36)) k ∧ h' 35 5 = 1 := by
  obtain ⟨k, k1, k2⟩ := ra_ex P 192 rfl 768 (hi 36) hR (by omega)
  obtain ⟨h', l1, l2, l3⟩ := ca_loop (hl := hl) d P k (hi 36) 0 999999 (am_si hi 0 9 0) k2 hR (by omega) (by omega) ⟨fun c z _ _ => am_si_ne z, fun x hx => am_si_off (by omega), am_si_at _ _ _ _, am_si_ne (by decide), fun t ht => by rw [am_si_ne (by decide)]; exact hse t ht⟩
  rw [Nat.zero_add] at l1 l2
  refine ⟨k, h', by omega, k2, ?_, l2, l3⟩
  rw [en_6, ht_6_0, ch_6_0]
  exact l1
end PG
