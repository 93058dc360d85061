/-! a RUN, whole, in both -/
theorem fg_lp1 (C : am_C) (h : Nat → Nat → Int32) (hl : Nat → Nat → Int64) (n2 : Nat) (r : Option Value × am_G) (k : am_fwd C (am_run C tb_r70_0 n2) tb_r70_3 24 [(1, .int 0), (0, .ref 73)] [] (pr_S, fl_h h 127 0 200, hl) = some r) : ∀ (q i n : Nat), i + q = 200 → q + n2 ≤ n → am_fwd C (am_run C tb_r70_0 n) tb_r70_1 2 [(1, .int (nI i)), (0, .ref 73)] [] (pr_S, fl_h h 127 0 i, hl) = some r := by
  intro q
  induction q with
  | zero =>
    intro i n h1 h2
    have e1 : i = 200 := by omega
    subst e1
    rw [ht_70_1, ch_70_1]; (try simp +decide (disch := omega) only [ni_bF, nI_clamp, nI_add, pk_mul, dc_ltT, dc_ltF, dc_leT, dc_leF, dc_eqF, dc_neT, dn_eq, dn_ne, dn_lt, dn_ge, si_at, si_c, si_k, q_at_nI, q_put_nI, ne_eq, not_false_eq_true, not_true_eq_false, ↓reduceIte, v0_ltT, v0_ltF, v0_gtT, v0_gtF, v0_leT, v0_leF, v0_geT, v0_geF, v0_eqT, v0_eqF, v0_add, v0_dda, v0_mul, v0_lum, v0_sub, v0_bad, v0_cl, v1_ltT, v1_ltF, v1_gtT, v1_gtF, v1_leT, v1_leF, v1_geT, v1_geF, v1_eqT, v1_eqF, v1_add, v1_dda, v1_mul, v1_lum, v1_sub, v1_bad, v1_cl, v200_ltT, v200_ltF, v200_gtT, v200_gtF, v200_leT, v200_leF, v200_geT, v200_geF, v200_eqT, v200_eqF, v200_add, v200_dda, v200_mul, v200_lum, v200_sub, v200_bad, v200_cl]); rw [ht_70_2, ch_70_2]
    exact mo_f (by omega) (by repeat (first | exact trivial | refine And.intro rfl ?_)) rfl k
  | succ q ih =>
    intro i n h1 h2
    obtain ⟨n, rfl⟩ : ∃ n', n = n' + 1 := ⟨n - 1, by omega⟩
    have p := ih (i + 1) n (by omega) (by omega)
    rw [ht_70_1, ch_70_1]; (try simp +decide (disch := omega) only [ni_bF, nI_clamp, nI_add, pk_mul, dc_ltT, dc_ltF, dc_leT, dc_leF, dc_eqF, dc_neT, dn_eq, dn_ne, dn_lt, dn_ge, si_at, si_c, si_k, q_at_nI, q_put_nI, ne_eq, not_false_eq_true, not_true_eq_false, ↓reduceIte, v0_ltT, v0_ltF, v0_gtT, v0_gtF, v0_leT, v0_leF, v0_geT, v0_geF, v0_eqT, v0_eqF, v0_add, v0_dda, v0_mul, v0_lum, v0_sub, v0_bad, v0_cl, v1_ltT, v1_ltF, v1_gtT, v1_gtF, v1_leT, v1_leF, v1_geT, v1_geF, v1_eqT, v1_eqF, v1_add, v1_dda, v1_mul, v1_lum, v1_sub, v1_bad, v1_cl, v200_ltT, v200_ltF, v200_gtT, v200_gtF, v200_leT, v200_leF, v200_geT, v200_geF, v200_eqT, v200_eqF, v200_add, v200_dda, v200_mul, v200_lum, v200_sub, v200_bad, v200_cl, fl_1]); rw [sk_70_2_2, lp_70_2]
    exact p
theorem fg_lp2 (C : am_C) (h : Nat → Nat → Int32) (hl : Nat → Nat → Int64) : ∀ (q i n : Nat), i + q = 7 → q ≤ n → am_fwd C (am_run C tb_r70_0 n) tb_r70_3 24 [(1, .int (nI i)), (0, .ref 73)] [] (pr_S, fl_h h 128 0 i, hl) = some (none, (pr_S, am_si (fl_h h 128 0 7) 73 74 0, hl)) := by
  intro q
  induction q with
  | zero =>
    intro i n h1 h2
    have e1 : i = 7 := by omega
    subst e1
    rw [ht_70_3, ch_70_3]; (try simp +decide (disch := omega) only [ni_bF, nI_clamp, nI_add, pk_mul, dc_ltT, dc_ltF, dc_leT, dc_leF, dc_eqF, dc_neT, dn_eq, dn_ne, dn_lt, dn_ge, si_at, si_c, si_k, q_at_nI, q_put_nI, ne_eq, not_false_eq_true, not_true_eq_false, ↓reduceIte, v0_ltT, v0_ltF, v0_gtT, v0_gtF, v0_leT, v0_leF, v0_geT, v0_geF, v0_eqT, v0_eqF, v0_add, v0_dda, v0_mul, v0_lum, v0_sub, v0_bad, v0_cl, v1_ltT, v1_ltF, v1_gtT, v1_gtF, v1_leT, v1_leF, v1_geT, v1_geF, v1_eqT, v1_eqF, v1_add, v1_dda, v1_mul, v1_lum, v1_sub, v1_bad, v1_cl, v7_ltT, v7_ltF, v7_gtT, v7_gtF, v7_leT, v7_leF, v7_geT, v7_geF, v7_eqT, v7_eqF, v7_add, v7_dda, v7_mul, v7_lum, v7_sub, v7_bad, v7_cl]); rw [ht_70_4, ch_70_4]
  | succ q ih =>
    intro i n h1 h2
    obtain ⟨n, rfl⟩ : ∃ n', n = n' + 1 := ⟨n - 1, by omega⟩
    have p := ih (i + 1) n (by omega) (by omega)
    rw [ht_70_3, ch_70_3]; (try simp +decide (disch := omega) only [ni_bF, nI_clamp, nI_add, pk_mul, dc_ltT, dc_ltF, dc_leT, dc_leF, dc_eqF, dc_neT, dn_eq, dn_ne, dn_lt, dn_ge, si_at, si_c, si_k, q_at_nI, q_put_nI, ne_eq, not_false_eq_true, not_true_eq_false, ↓reduceIte, v0_ltT, v0_ltF, v0_gtT, v0_gtF, v0_leT, v0_leF, v0_geT, v0_geF, v0_eqT, v0_eqF, v0_add, v0_dda, v0_mul, v0_lum, v0_sub, v0_bad, v0_cl, v1_ltT, v1_ltF, v1_gtT, v1_gtF, v1_leT, v1_leF, v1_geT, v1_geF, v1_eqT, v1_eqF, v1_add, v1_dda, v1_mul, v1_lum, v1_sub, v1_bad, v1_cl, v7_ltT, v7_ltF, v7_gtT, v7_gtF, v7_leT, v7_leF, v7_geT, v7_geF, v7_eqT, v7_eqF, v7_add, v7_dda, v7_mul, v7_lum, v7_sub, v7_bad, v7_cl, fl_1]); rw [sk_70_4_24, lp_70_24]
    exact p
theorem em_forget (d : Nat) (h : Nat → Nat → Int32) (hl : Nat → Nat → Int64) : am_call tb_P (d + 1) 70 [.ref 73] (pr_S, h, hl) = some (none, (pr_S, am_si (fl_h (fl_h h 127 0 200) 128 0 7) 73 74 0, hl)) := by
  have k2 := fg_lp2 (am_call tb_P d) (fl_h h 127 0 200) hl 7 0 1000 (by omega) (by omega)
  rw [fl_0] at k2
  have k := fg_lp1 (am_call tb_P d) h hl 1000 _ k2 200 0 999999 (by omega) (by omega)
  rw [fl_0] at k
  rw [en_70, ht_70_0, ch_70_0]
  exact k
/-- the machine, cleared -/
def xcl (h : Nat → Nat → Int32) : Nat → Nat → Int32 := am_si (am_si (am_si (am_si (am_si (am_si (fl_h (fl_h h 46 0 7) 47 0 200) 45 2 0) 48 0 0) 54 0 0) 60 0 0) 67 0 0) 45 11 (-1)
theorem ea_mclear (d : Nat) (h : Nat → Nat → Int32) (hl : Nat → Nat → Int64) : am_call tb_P (d + 2) 150 [.ref 45] (pr_S, h, hl) = some (none, (pr_S, xcl h, hl)) := by
  rw [en_150, ht_150_0, ch_150_0, fl_46 _ _ _ _, ev_rn, ch_150_1, fl_47 _ _ _ _, ev_rn, ch_150_2]
  rfl
theorem xcl_n {h : Nat → Nat → Int32} {c : Nat} (e : c ≠ 46 ∧ c ≠ 47 ∧ c ≠ 45 ∧ c ≠ 48 ∧ c ≠ 54 ∧ c ≠ 60 ∧ c ≠ 67) : xcl h c = h c := by
  unfold xcl
  rw [am_si_ne (by omega), am_si_ne (by omega), am_si_ne (by omega), am_si_ne (by omega), am_si_ne (by omega), am_si_ne (by omega), fl_c (by omega), fl_c (by omega)]
section EX
variable {h0 h1 : Nat → Nat → Int32} {hl : Nat → Nat → Int64} {z nd nt nn hf lim : Nat} {sz L bd st : Nat → Nat} {md : Int32}
/-- what a RUN leaves -/
def ex_R (h0 h1 hC hM : Nat → Nat → Int32) : Prop := (∀ c, c < 45 ∨ 71 < c → hC c = h0 c) ∧ (∀ c, c < 105 → c ≠ 73 → hM c = h1 c) ∧ (∀ x, x < 49 → hM 73 x = h1 73 x) ∧ (∀ k, k < 7 → hM 128 k = hC 46 k) ∧ (∀ t, t < 200 → hC 47 t = hM 127 t) ∧ hM 73 74 = hC 45 2
/-- the reference, ready -/
def xrd (h1 : Nat → Nat → Int32) (lim : Nat) (md : Int32) : Nat → Nat → Int32 := am_si (am_si (am_si (am_si (am_si (am_si (am_si (am_si (am_si (am_si (fl_h (fl_h h1 127 0 200) 128 0 7) 73 74 0) 73 49 0) 73 54 0) 73 57 0) 73 64 0) 73 67 0) 73 71 0) 73 75 md) 73 76 (nI lim)) 73 77 7
theorem xrd_n {c : Nat} (e : c ≠ 73 ∧ c ≠ 127 ∧ c ≠ 128) : xrd h1 lim md c = h1 c := by
  unfold xrd
  rw [am_si_ne e.1, am_si_ne e.1, am_si_ne e.1, am_si_ne e.1, am_si_ne e.1, am_si_ne e.1, am_si_ne e.1, am_si_ne e.1, am_si_ne e.1, am_si_ne e.1, fl_c e.2.2, fl_c e.2.1]
theorem xrd_o {x : Nat} (e : x < 49) : xrd h1 lim md 73 x = h1 73 x := by
  unfold xrd
  rw [am_si_off (by omega), am_si_off (by omega), am_si_off (by omega), am_si_off (by omega), am_si_off (by omega), am_si_off (by omega), am_si_off (by omega), am_si_off (by omega), am_si_off (by omega), am_si_off (by omega), fl_c (by decide), fl_c (by decide)]
theorem xrd_k {k : Nat} (hk : k < 7) : xrd h1 lim md 128 k = 0 := by
  unfold xrd
  rw [am_si_ne (by decide), am_si_ne (by decide), am_si_ne (by decide), am_si_ne (by decide), am_si_ne (by decide), am_si_ne (by decide), am_si_ne (by decide), am_si_ne (by decide), am_si_ne (by decide), am_si_ne (by decide)]
  exact fl_in hk
theorem xrd_d {t : Nat} (ht : t < 200) : xrd h1 lim md 127 t = 0 := by
  unfold xrd
  rw [am_si_ne (by decide), am_si_ne (by decide), am_si_ne (by decide), am_si_ne (by decide), am_si_ne (by decide), am_si_ne (by decide), am_si_ne (by decide), am_si_ne (by decide), am_si_ne (by decide), am_si_ne (by decide), fl_c (by decide)]
  exact fl_in ht
theorem rs_0 (hC : Nat → Nat → Int32) (a : ∀ c, c ≠ 45 → hC c = xcl h0 c) (a9 : hC 45 9 = nI lim) (a10 : hC 45 10 = md) : rn_S h0 h1 z nd nn sz lim md hC (am_si (xrd h1 lim md) 128 2 0) 0 0 0 0 0 0 0 0 0 := by
  have k0 : ∀ k, k < 7 → hC 46 k = 0 := fun k hk => by
    rw [a _ (by decide)]
    unfold xcl
    rw [am_si_ne (by decide), am_si_ne (by decide), am_si_ne (by decide), am_si_ne (by decide), am_si_ne (by decide), am_si_ne (by decide), fl_c (by decide)]
    exact fl_in hk
  have d0 : ∀ t, t < 200 → hC 47 t = 0 := fun t ht => by
    rw [a _ (by decide)]
    unfold xcl
    rw [am_si_ne (by decide), am_si_ne (by decide), am_si_ne (by decide), am_si_ne (by decide), am_si_ne (by decide), am_si_ne (by decide)]
    exact fl_in ht
  have m0 : ∀ k, k < 7 → (am_si (xrd h1 lim md) 128 2 0) 128 k = 0 := fun k hk => by
    by_cases e : k = 2
    · subst e; exact am_si_at _ _ _ _
    · rw [am_si_off (by omega)]; exact xrd_k hk
  refine ⟨⟨?_, ?_, ?_, ?_, ?_, ?_, ?_, ?_, ?_, ?_⟩, ⟨k0 0 (by decide), m0 0 (by decide), k0 1 (by decide), m0 1 (by decide), k0 6 (by decide), m0 6 (by decide), ?_, ?_, ?_, ?_⟩, ⟨fun c hc => ?_, a9, a10, fun c c1 c2 => ?_, fun x hx => ?_, ?_, ?_, ?_⟩, fun b hb => absurd hb (Nat.not_lt_zero _), fun b hb => absurd hb (Nat.not_lt_zero _), ?_, fun c hc => absurd hc (Nat.not_lt_zero _), fun f hf => absurd hf (Nat.not_lt_zero _), fun f hf => absurd hf (Nat.not_lt_zero _), fun w hw => absurd hw (Nat.not_lt_zero _), ⟨0, by omega, by omega, k0 5 (by decide)⟩⟩
  · rw [a _ (by decide)]; rfl
  · rw [a _ (by decide)]; rfl
  · rw [a _ (by decide)]; rfl
  · rw [a _ (by decide)]; rfl
  · rw [am_si_ne (by decide)]; rfl
  · rw [am_si_ne (by decide)]; rfl
  · rw [am_si_ne (by decide)]; rfl
  · rw [am_si_ne (by decide)]; rfl
  · rw [am_si_ne (by decide)]; rfl
  · rw [am_si_ne (by decide)]; rfl
  · rw [k0 2 (by decide), m0 2 (by decide)]
  · rw [k0 3 (by decide), m0 3 (by decide)]
  · rw [k0 4 (by decide), m0 4 (by decide)]
  · rw [k0 5 (by decide), m0 5 (by decide)]
  · rw [a c (by omega), xcl_n (by omega)]
  · rw [am_si_ne (by omega), xrd_n (by omega)]
  · rw [am_si_ne (by decide), xrd_o hx]
  · rw [am_si_ne (by decide)]; rfl
  · rw [am_si_ne (by decide)]; rfl
  · rw [am_si_ne (by decide)]; rfl
  · refine ⟨fun _ => 0, fun _ => 0, fun _ => 0, fun _ => 0, fun b hb => absurd hb (Nat.not_lt_zero _), fun t ht => ⟨d0 t ht, ?_, Nat.zero_le _, Nat.zero_le _, Nat.le_refl _, fun b hb => absurd hb (Nat.not_lt_zero _), Or.inl rfl⟩⟩
    rw [am_si_ne (by decide)]; exact xrd_d ht
/-- execute of the class, and the reference from behind its findUses -/
theorem ex_pair (d e : Nat) (y2 y3 : Int32) (Kx : rn_K h0 h1 z nd nt nn hf sz L bd st md) (he : e < nd) (har : ∀ j, j < 4 → h0 72 j = h1 104 j) (hlim : lim ≤ 10000) :
    ∃ (hC hM : Nat → Nat → Int32) (o : Int32), ex_R h0 h1 hC hM ∧ am_call tb_P (d + 9) 151 [.ref 45, .int (nI e), .int (nI lim), .int md, .ref 72] (pr_S, h0, hl) = some (some (.int o), (pr_S, hC, hl)) ∧ am_fwd (am_call tb_P (d + 8)) (am_run (am_call tb_P (d + 8)) tb_r87_0 999999) tb_r87_4 93 [(5, .int 0), (4, .int (-1)), (0, .ref 73), (1, .int (nI e)), (2, .int y2), (3, .int y3)] [] (pr_S, xrd h1 lim md, hl) = some (some (.int o), (pr_S, hM, hl)) := by
  obtain ⟨p1, p2, p3, p4, p5, p6, p7, p8, p9, p10, p11, p12, p13, p14⟩ := Kx.1
  obtain ⟨q1, q2, q3, q4, q5, q6, q7, q8, q9, q10, q11, q14⟩ := p12 e he
  have S := rs_0 (h0 := h0) (h1 := h1) (lim := lim) (md := md) (z := z) (nd := nd) (nn := nn) (sz := sz) (am_si (am_si (am_si (xcl h0) 45 9 (nI lim)) 45 10 md) 45 13 (-1)) (fun c hc => by rw [am_si_ne hc, am_si_ne hc, am_si_ne hc]) (by rw [am_si_off (by decide), am_si_off (by decide), am_si_at]) (by rw [am_si_off (by decide), am_si_at])
  obtain ⟨hC', hM', o, F, u2, u3⟩ := pl_loop (hl := hl) d e (nI lim) md y2 y3 Kx he har hlim (sz e) 0 999999 _ _ (-1) (-1) [] (by omega) (by omega) S (am_si_at _ _ _ _) (by rw [am_si_off (by decide), am_si_off (by decide), am_si_off (by decide)]; rfl) rfl rfl (fun t y1 y2 => absurd y1 (by omega)) (fun t ht => absurd ht List.not_mem_nil) ⟨rfl, rfl⟩
  obtain ⟨⟨nb, nc, cn, cl, f1, f2, f3, f4, f5⟩, f6, f7, f8, f9, f10, f11, f12, f13, f14⟩ := F
  obtain ⟨h', s1, s2, s3⟩ := ea_settle (d + 6) nb cn cl hC' hl (hM' 113) (hM' 127) (hM' 110) (hM' 111) (hM' 112) nc f1 f2 f3 f4 f5
  have g11 : h' 45 11 = o := by rw [s2 _ (by decide) (by decide)]; exact f10
  have g16 : h' 45 16 = hC' 45 16 := by rw [s2 _ (by decide) (by decide)]
  refine ⟨am_si h' 45 2 (if o = 0 then hC' 45 16 else 0), hM', o, ⟨fun c hc => ?_, f8, f9, fun k hk => ?_, fun t ht => ?_, ?_⟩, ?_, u3⟩
  · rw [am_si_ne (by omega), s2 c (by omega) (by omega)]; exact f7 c hc
  · rw [am_si_ne (by decide), s2 _ (by decide) (by decide)]; exact f6 k hk
  · rw [am_si_ne (by decide)]; exact s3 t ht
  · rw [am_si_at]; exact f14
  · have w := u2 (some (.int o), (pr_S, am_si h' 45 2 (if o = 0 then hC' 45 16 else 0), hl)) (fun x7 => by
      by_cases c : o = 0
      · rw [if_pos c]
        rw [c] at g11 ⊢
        rw [ht_151_6, ch_151_13, s1, ev_rn, ch_151_18]; (try simp +decide (disch := omega) only [ni_bF, nI_clamp, nI_add, pk_mul, dc_ltT, dc_ltF, dc_leT, dc_leF, dc_eqF, dc_neT, dn_eq, dn_ne, dn_lt, dn_ge, si_at, si_c, si_k, q_at_nI, q_put_nI, ne_eq, not_false_eq_true, not_true_eq_false, ↓reduceIte, v0_ltT, v0_ltF, v0_gtT, v0_gtF, v0_leT, v0_leF, v0_geT, v0_geF, v0_eqT, v0_eqF, v0_add, v0_dda, v0_mul, v0_lum, v0_sub, v0_bad, v0_cl, g11, g16]); rw [sk_151_7_186, ht_151_8, ch_151_24]
        rw [g11]
      · rw [if_neg c]
        rw [ht_151_6, ch_151_13, s1, ev_rn, ch_151_18]; (try simp +decide (disch := omega) only [ni_bF, nI_clamp, nI_add, pk_mul, dc_ltT, dc_ltF, dc_leT, dc_leF, dc_eqF, dc_neT, dn_eq, dn_ne, dn_lt, dn_ge, si_at, si_c, si_k, q_at_nI, q_put_nI, ne_eq, not_false_eq_true, not_true_eq_false, ↓reduceIte, v0_ltT, v0_ltF, v0_gtT, v0_gtF, v0_leT, v0_leF, v0_geT, v0_geF, v0_eqT, v0_eqF, v0_add, v0_dda, v0_mul, v0_lum, v0_sub, v0_bad, v0_cl, g11]); rw [if_pos c, ht_151_7, ch_151_23, ht_151_8, ch_151_24]
        rw [g11])
    have eDT : (xcl h0) 21 e = nI (L e) := by rw [xcl_n (by decide)]; exact q5
    have eDS : (xcl h0) 20 e = nI (sz e) := by rw [xcl_n (by decide)]; exact q1
    rw [en_151, ht_151_0, ch_151_0, ea_mclear _ _ _, ev_rn, ch_151_1, at_21, ev_rs, ch_151_2]; (try simp +decide (disch := omega) only [ni_bF, nI_clamp, nI_add, pk_mul, dc_ltT, dc_ltF, dc_leT, dc_leF, dc_eqF, dc_neT, dn_eq, dn_ne, dn_lt, dn_ge, si_at, si_c, si_k, q_at_nI, q_put_nI, ne_eq, not_false_eq_true, not_true_eq_false, ↓reduceIte, v0_ltT, v0_ltF, v0_gtT, v0_gtF, v0_leT, v0_leF, v0_geT, v0_geF, v0_eqT, v0_eqF, v0_add, v0_dda, v0_mul, v0_lum, v0_sub, v0_bad, v0_cl, eDT, eDS]); rw [at_20, ev_rs, ch_151_3]; try simp +decide (disch := omega) only [ni_bF, nI_clamp, nI_add, pk_mul, dc_ltT, dc_ltF, dc_leT, dc_leF, dc_eqF, dc_neT, dn_eq, dn_ne, dn_lt, dn_ge, si_at, si_c, si_k, q_at_nI, q_put_nI, ne_eq, not_false_eq_true, not_true_eq_false, ↓reduceIte, v0_ltT, v0_ltF, v0_gtT, v0_gtF, v0_leT, v0_leF, v0_geT, v0_geF, v0_eqT, v0_eqF, v0_add, v0_dda, v0_mul, v0_lum, v0_sub, v0_bad, v0_cl, eDT, eDS]
    exact w
end EX
