/-! both parsers side by side: more steps; right or doomed -/
def ps_D (h0 : Nat → Nat → Int32) (g0 : Nat → Nat → Int64) (h1 : Nat → Nat → Int32) (g1 : Nat → Nat → Int64) (B : Nat → Nat) (N M rd : Nat) (hC : Nat → Nat → Int32) (gC : Nat → Nat → Int64) (hM : Nat → Nat → Int32) (gM : Nat → Nat → Int64) (w π : Nat) : Prop := ∃ k n, ps_B h0 g0 h1 g1 B N M rd hC gC hM gM k n w ∧ 3 * (n + π) ≤ qk B N k + 3
theorem nm_0 {B : Nat → Nat} {p k : Nat} (h : B (p + k) < 256) (h2 : B (p + k) ≠ 0) : nm B p (k + 1) ≠ 0 := by
  intro e
  have e2 : (nm B p k <<< ((8 : Int32).toInt64 &&& 63)) ||| (nI (B (p + k))).toInt64 = 0 := e
  have e3 := congrArg Int64.toBitVec e2
  rw [Int64.toBitVec_or] at e3
  have e4 : (nI (B (p + k))).toInt64.toBitVec = 0 := by
    have := BitVec.or_eq_zero_iff.mp e3
    exact this.2
  have e5 : (nI (B (p + k))).toInt64 = 0 := Int64.toBitVec_inj.mp e4
  rw [nI_l (by omega)] at e5
  have e6 := congrArg Int64.toInt e5
  rw [lN_toInt (by omega)] at e6
  have : ((0 : Int64).toInt) = 0 := rfl
  omega
section OQ
variable {h0 h1 hC hM : Nat → Nat → Int32} {g0 g1 gC gM : Nat → Nat → Int64} {B : Nat → Nat} {N M rd k o n t w π : Nat} {G : List Nat}
theorem tok_nm (X : px h0 h1 g1 B N M rd) (h : tok B N (tp B N k) = 2) : nm B (tp B N k) (la B N (tp B N k) - tp B N k) ≠ 0 := by
  obtain ⟨n1, n2, n3⟩ := tok_n h
  have e : te B N (tp B N k) = la B N (tp B N k) := by unfold te; rw [if_neg (by omega), if_pos n2]
  have g := te_g (B := B) (N := N) (s := tp B N k) tp_N
  rw [e] at g
  have g3 := g.2.2 n1
  obtain ⟨j, hj⟩ : ∃ j, la B N (tp B N k) - tp B N k = j + 1 := ⟨la B N (tp B N k) - tp B N k - 1, by omega⟩
  rw [hj]
  have q := (ru_g (P := ch_a) (B := B) (N := N) (n := 2000) (p := tp B N k)).2.2 (tp B N k + j) (by omega) (by unfold la at hj; omega)
  refine nm_0 (X.1 _ (by omega)).1 (fun z => ?_)
  rw [z] at q
  exact absurd q (by decide)
/-- enter and opens -/
def xop (h : Nat → Nat → Int32) (v : Int32) : Nat → Nat → Int32 := am_si h 32 2 v
theorem po_open {hC' hM' : Nat → Nat → Int32} {o' : Nat} (P : po hC gC hM gM B N M rd k o n t w G) (a : ∀ c, c ≠ 32 → hC' c = hC c) (a1 : ∀ x, x < 2 → hC' 32 x = hC 32 x) (a2 : hC' 32 2 = nI o') (a3 : hC' 32 3 = hC 32 3) (b : ∀ c, c ≠ 73 → hM' c = hM c) (b2 : ∀ x, x ≠ 29 → hM' 73 x = hM 73 x) (b3 : hM' 73 29 = nI o') (ho : o' ≤ 40) (hw : w ≤ 4 + 2 * o') : po hC' gC hM' gM B N M rd k o' n t w G := by
  obtain ⟨p1, p2, p3, p4, p5, p6, p7⟩ := P
  refine ⟨?_, ⟨by rw [a1 _ (by decide)]; exact p2.1, a2, by rw [a3]; exact p2.2.2.1, by rw [a1 _ (by decide)]; exact p2.2.2.2⟩, ⟨?_, ?_, b3, ?_, ?_⟩, ?_, ?_, ?_, ho, hw⟩
  · unfold at_C at p1 ⊢; rw [a _ (by decide)]; exact p1
  · rw [b2 _ (by decide)]; exact p3.1
  · rw [b2 _ (by decide)]; exact p3.2.1
  · rw [b2 _ (by decide)]; exact p3.2.2.2.1
  · rw [b2 _ (by decide)]; exact p3.2.2.2.2
  · rw [a _ (by decide), b _ (by decide)]; exact p4
  · rw [a 3 (by decide), a 9 (by decide), a 10 (by decide), a 11 (by decide), b 86 (by decide), b 92 (by decide), b 93 (by decide), b 94 (by decide)]; exact p5
  · unfold nr rp_N at p6 ⊢
    rw [a 3 (by decide), a 12 (by decide), a 13 (by decide), a 14 (by decide), a 15 (by decide), a 16 (by decide), a 9 (by decide), b 79 (by decide), b 80 (by decide), b 81 (by decide), b 82 (by decide), b 83 (by decide), b 84 (by decide)]; exact p6
theorem pf_Mc {hM' : Nat → Nat → Int32} (F : pf_M h1 g1 rd hM gM) (b : ∀ c, c ≠ 73 → hM' c = hM c) (b2 : ∀ x, x ≠ 6 → x ≠ 24 → x ≠ 26 → x ≠ 27 → x ≠ 29 → x ≠ 32 → x ≠ 33 → hM' 73 x = hM 73 x) : pf_M h1 g1 rd hM' gM := ⟨fun c q1 q2 q3 q4 q5 => by rw [b c q1]; exact F.1 c q1 q2 q3 q4 q5, fun x a1 a2 a3 a4 a5 a6 a7 => by rw [b2 x a1 a2 a3 a4 a5 a6 a7]; exact F.2.1 x a1 a2 a3 a4 a5 a6 a7, F.2.2.1, fun c i a1 a2 a3 => by rw [b c (by omega)]; exact F.2.2.2.1 c i a1 a2 a3, fun i hi => by rw [b _ (by decide)]; exact F.2.2.2.2.1 i hi, fun c i a1 a2 a3 => by rw [b c (by omega)]; exact F.2.2.2.2.2 c i a1 a2 a3⟩
theorem pb_cg {hC' hM' : Nat → Nat → Int32} {w' : Nat} (P : ps_B h0 g0 h1 g1 B N M rd hC gC hM gM k n w) (a : ∀ c, c ≠ 32 → hC' c = hC c) (a0 : hC' 32 0 = hC 32 0) (a1 : hC' 32 1 = hC 32 1) (b : ∀ c, c ≠ 73 → hM' c = hM c) (b2 : ∀ x, x ≠ 29 → x ≠ 33 → x ≠ 32 → hM' 73 x = hM 73 x) (b3 : hM' 73 32 = nI w') : ps_B h0 g0 h1 g1 B N M rd hC' gC hM' gM k n w' := by
  obtain ⟨F1, F2, f, p, q1, q2, q3, q4, q5, q6, q7, q8, q9⟩ := P
  refine ⟨pf_Cc F1 (fun c _ q => a c q) (by rw [a _ (by decide)]) (fun _ _ => rfl), pf_Mc F2 b (fun x z1 z2 z3 z4 z5 z6 z7 => b2 x z5 z7 z6), f, p, by rw [a1]; exact q1, q2, by rw [a0]; exact q3, by rw [a _ (by decide)]; exact q4, by rw [b2 _ (by decide) (by decide) (by decide)]; exact q5, q6, by rw [b2 _ (by decide) (by decide) (by decide)]; exact q7, b3, ?_⟩
  rw [b2 26 (by decide) (by decide) (by decide), b2 27 (by decide) (by decide) (by decide)]
  exact q9
theorem st_open (d : Nat) (X : px h0 h1 g1 B N M rd) (P : ps_O h0 g0 h1 g1 B N M rd hC gC hM gM k o n t w G) : ∃ hC' hM', am_call tb_P (d + 2) 196 [.ref 32] (pr_S, hC, gC) = some (none, (pr_S, hC', gC)) ∧ am_call tb_P (d + 2) 33 [.ref 73] (pr_S, hM, gM) = some (none, (pr_S, hM', gM)) ∧ (∀ c, c ≠ 1 → c ≠ 32 → hC' c = hC c) ∧ hC' 32 3 = nI w ∧ ((o < 40 ∧ ps_O h0 g0 h1 g1 B N M rd hC' gC hM' gM k (o + 1) n t w G) ∨ (ps_B h0 g0 h1 g1 B N M rd hC' gC hM' gM k n w ∧ hM' 73 26 ≠ 0)) := by
  obtain ⟨F1, F2, P'⟩ := id P
  obtain ⟨p1, p2, p3, p4, p5, p6, p7⟩ := id P'
  have hk : k < 2001 := by have := X.2.2.2.1; have := p1.2.2; omega
  have e2 := p2.2.1
  have e29 := p3.2.2.1
  have e26 := p3.2.1
  by_cases c : o < 40
  · refine ⟨am_si hC 32 2 (nI (o + 1)), am_si hM 73 29 (nI (o + 1)), ?_, ?_, fun c _ q => am_si_ne q, ?_, Or.inl ⟨c, pf_Cc F1 (fun c _ q => am_si_ne q) (by rw [am_si_ne (by decide)]) (fun _ _ => rfl), pf_Mo (by decide) F2, po_open P' (fun c q => am_si_ne q) (fun x q => am_si_off (by omega)) (am_si_at _ _ _ _) (am_si_off (by decide)) (fun c q => am_si_ne q) (fun x q => am_si_off (by omega)) (am_si_at _ _ _ _) (by omega) (by omega)⟩⟩
    · rw [en_196, ht_196_0, ch_196_0]; (try simp +decide (disch := omega) only [ni_bF, nI_clamp, nI_add, pk_mul, dc_ltT, dc_ltF, dc_leT, dc_leF, dc_eqF, dc_neT, dn_eq, dn_ne, dn_lt, dn_ge, si_at, si_c, si_k, q_at_nI, q_put_nI, ne_eq, not_false_eq_true, not_true_eq_false, ↓reduceIte, v0_ltT, v0_ltF, v0_gtT, v0_gtF, v0_leT, v0_leF, v0_geT, v0_geF, v0_eqT, v0_eqF, v0_add, v0_dda, v0_mul, v0_lum, v0_sub, v0_bad, v0_cl, v1_ltT, v1_ltF, v1_gtT, v1_gtF, v1_leT, v1_leF, v1_geT, v1_geF, v1_eqT, v1_eqF, v1_add, v1_dda, v1_mul, v1_lum, v1_sub, v1_bad, v1_cl, v40_ltT, v40_ltF, v40_gtT, v40_gtF, v40_leT, v40_leF, v40_geT, v40_geF, v40_eqT, v40_eqF, v40_add, v40_dda, v40_mul, v40_lum, v40_sub, v40_bad, v40_cl, e2]); rw [ht_196_1, ch_196_1]
    · rw [en_33, ht_33_0, ch_33_0]; (try simp +decide (disch := omega) only [ni_bF, nI_clamp, nI_add, pk_mul, dc_ltT, dc_ltF, dc_leT, dc_leF, dc_eqF, dc_neT, dn_eq, dn_ne, dn_lt, dn_ge, si_at, si_c, si_k, q_at_nI, q_put_nI, ne_eq, not_false_eq_true, not_true_eq_false, ↓reduceIte, v0_ltT, v0_ltF, v0_gtT, v0_gtF, v0_leT, v0_leF, v0_geT, v0_geF, v0_eqT, v0_eqF, v0_add, v0_dda, v0_mul, v0_lum, v0_sub, v0_bad, v0_cl, v40_ltT, v40_ltF, v40_gtT, v40_gtF, v40_leT, v40_leF, v40_geT, v40_geF, v40_eqT, v40_eqF, v40_add, v40_dda, v40_mul, v40_lum, v40_sub, v40_bad, v40_cl, e26, e29]); rw [ht_33_1, ch_33_1]; try simp +decide (disch := omega) only [ni_bF, nI_clamp, nI_add, pk_mul, dc_ltT, dc_ltF, dc_leT, dc_leF, dc_eqF, dc_neT, dn_eq, dn_ne, dn_lt, dn_ge, si_at, si_c, si_k, q_at_nI, q_put_nI, ne_eq, not_false_eq_true, not_true_eq_false, ↓reduceIte, v0_ltT, v0_ltF, v0_gtT, v0_gtF, v0_leT, v0_leF, v0_geT, v0_geF, v0_eqT, v0_eqF, v0_add, v0_dda, v0_mul, v0_lum, v0_sub, v0_bad, v0_cl, v1_ltT, v1_ltF, v1_gtT, v1_gtF, v1_leT, v1_leF, v1_geT, v1_geF, v1_eqT, v1_eqF, v1_add, v1_dda, v1_mul, v1_lum, v1_sub, v1_bad, v1_cl, e26, e29]
    · rw [am_si_off (by decide)]; exact p2.2.2.1
  · have o4 : o = 40 := by omega
    subst o4
    have Q := pb_cg (hC' := xfl (am_si hC 32 2 (nI 41)) 5 (hC 1 2)) (hM' := am_si (xfm2 hM 5 (hM 76 k)) 73 29 (nI 41)) (w' := w) (ps_fl (f := 5) X P (by decide)) (fun c q => by
      unfold xfl
      by_cases e : c = 1
      · subst e; rw [am_si_self, am_si_self, am_si_ne q, am_si_ne q, am_si_ne q, am_si_ne q, am_si_ne q]
      · rw [am_si_ne e, am_si_ne q, am_si_ne q, am_si_ne q, am_si_ne e, am_si_ne q, am_si_ne q]) (by unfold xfl; rw [am_si_ne (by decide), am_si_at, am_si_ne (by decide), am_si_at]) (by unfold xfl; rw [am_si_ne (by decide), am_si_off (by decide), am_si_at, am_si_ne (by decide), am_si_off (by decide), am_si_at]) (fun c q => am_si_ne q) (fun x q _ _ => am_si_off (by omega)) (by rw [am_si_off (by decide)]; unfold xfm2; rw [am_si_off (by decide), am_si_off (by decide)]; exact p3.2.2.2.1)
    refine ⟨xfl (am_si hC 32 2 (nI 41)) 5 (hC 1 2), am_si (xfm2 hM 5 (hM 76 k)) 73 29 (nI 41), ?_, ?_, fun c q1 q2 => by unfold xfl; rw [am_si_ne q1, am_si_ne q2, am_si_ne q2, am_si_ne q2], ?_, Or.inr ⟨Q, ?_⟩⟩
    · have f := ea_pfail (hC := am_si hC 32 2 (nI 41)) (gC := gC) (f := 5) d (by rw [am_si_off (by decide)]; exact p2.1)
      rw [am_si_ne (by decide)] at f
      rw [en_196, ht_196_0, ch_196_0]; (try simp +decide (disch := omega) only [ni_bF, nI_clamp, nI_add, pk_mul, dc_ltT, dc_ltF, dc_leT, dc_leF, dc_eqF, dc_neT, dn_eq, dn_ne, dn_lt, dn_ge, si_at, si_c, si_k, q_at_nI, q_put_nI, ne_eq, not_false_eq_true, not_true_eq_false, ↓reduceIte, v0_ltT, v0_ltF, v0_gtT, v0_gtF, v0_leT, v0_leF, v0_geT, v0_geF, v0_eqT, v0_eqF, v0_add, v0_dda, v0_mul, v0_lum, v0_sub, v0_bad, v0_cl, v1_ltT, v1_ltF, v1_gtT, v1_gtF, v1_leT, v1_leF, v1_geT, v1_geF, v1_eqT, v1_eqF, v1_add, v1_dda, v1_mul, v1_lum, v1_sub, v1_bad, v1_cl, v40_ltT, v40_ltF, v40_gtT, v40_gtF, v40_leT, v40_leF, v40_geT, v40_geF, v40_eqT, v40_eqF, v40_add, v40_dda, v40_mul, v40_lum, v40_sub, v40_bad, v40_cl, e2]); rw [f, ev_rn, ch_196_2, ht_196_1, ch_196_1]
    · have f := em_pfail (gM := gM) (f := 5) d e26 p3.1 hk
      have e29' : (xfm2 hM 5 (hM 76 k)) 73 29 = nI 40 := by unfold xfm2; rw [am_si_off (by decide), am_si_off (by decide)]; exact e29
      rw [en_33, ht_33_0, ch_33_0]; (try simp +decide (disch := omega) only [ni_bF, nI_clamp, nI_add, pk_mul, dc_ltT, dc_ltF, dc_leT, dc_leF, dc_eqF, dc_neT, dn_eq, dn_ne, dn_lt, dn_ge, si_at, si_c, si_k, q_at_nI, q_put_nI, ne_eq, not_false_eq_true, not_true_eq_false, ↓reduceIte, v0_ltT, v0_ltF, v0_gtT, v0_gtF, v0_leT, v0_leF, v0_geT, v0_geF, v0_eqT, v0_eqF, v0_add, v0_dda, v0_mul, v0_lum, v0_sub, v0_bad, v0_cl, v40_ltT, v40_ltF, v40_gtT, v40_gtF, v40_leT, v40_leF, v40_geT, v40_geF, v40_eqT, v40_eqF, v40_add, v40_dda, v40_mul, v40_lum, v40_sub, v40_bad, v40_cl, e26, e29]); rw [f, ev_rn, ch_33_2, ht_33_1, ch_33_1]; (try simp +decide (disch := omega) only [ni_bF, nI_clamp, nI_add, pk_mul, dc_ltT, dc_ltF, dc_leT, dc_leF, dc_eqF, dc_neT, dn_eq, dn_ne, dn_lt, dn_ge, si_at, si_c, si_k, q_at_nI, q_put_nI, ne_eq, not_false_eq_true, not_true_eq_false, ↓reduceIte, v0_ltT, v0_ltF, v0_gtT, v0_gtF, v0_leT, v0_leF, v0_geT, v0_geF, v0_eqT, v0_eqF, v0_add, v0_dda, v0_mul, v0_lum, v0_sub, v0_bad, v0_cl, v1_ltT, v1_ltF, v1_gtT, v1_gtF, v1_leT, v1_leF, v1_geT, v1_geF, v1_eqT, v1_eqF, v1_add, v1_dda, v1_mul, v1_lum, v1_sub, v1_bad, v1_cl, e26, e29]); rw [e29']
      rfl
    · unfold xfl; rw [am_si_ne (by decide), am_si_off (by decide), am_si_off (by decide), am_si_off (by decide)]; exact p2.2.2.1
    · rw [am_si_off (by decide)]; unfold xfm2; rw [am_si_off (by decide), am_si_at]; decide
/-- a new THING -/
theorem st_thing (d : Nat) {kd : Int32} (X : px h0 h1 g1 B N M rd) (P : ps_O h0 g0 h1 g1 B N M rd hC gC hM gM k o n t w G) (D : Nat) (hD : h0 3 0 = nI (D + 1)) (hDm : h1 85 rd = nI D) : ∃ (hC' hM' : Nat → Nat → Int32) (rC rM : Int32), am_call tb_P (d + 2) 198 [.ref 32, .int kd] (pr_S, hC, gC) = some (some (.int rC), (pr_S, hC', gC)) ∧ am_call tb_P (d + 2) 31 [.ref 73, .int kd] (pr_S, hM, gM) = some (some (.int rM), (pr_S, hM', gM)) ∧ ((t < 200 ∧ rC = nI t ∧ rM = nI t ∧ ps_O h0 g0 h1 g1 B N M rd hC' gC hM' gM k o n (t + 1) w G ∧ (∀ c, c ≠ 3 → (c < 9 ∨ 11 < c) → hC' c = hC c) ∧ (∀ c i, i ≠ t → 9 ≤ c → c ≤ 11 → hC' c i = hC c i) ∧ hC' 9 t = kd ∧ hC' 10 t = nI D) ∨ (ps_B h0 g0 h1 g1 B N M rd hC' gC hM' gM k n w ∧ hM' 73 26 ≠ 0 ∧ hC' 32 3 = nI w)) := by
  obtain ⟨F1, F2, P'⟩ := id P
  obtain ⟨p1, p2, p3, p4, p5, p6, p7⟩ := id P'
  obtain ⟨x1, x2, x3, x4, x5, x6, x7, x8, x9⟩ := id X
  have hk : k < 2001 := by have := p1.2.2; omega
  have f0 := p2.1
  have s1 := p5.1
  have m25 : hM 73 25 = nI rd := by rw [F2.2.1 25 (by decide) (by decide) (by decide) (by decide) (by decide) (by decide) (by decide)]; exact x8
  have mt := p5.2.1
  by_cases c : t < 200
  · have e0 : hC 3 0 = nI (D + 1) := by rw [F1.2.1]; exact hD
    have e2 : hC 1 2 = nI (tp B N k) := p1.1.1
    have ed : hM 85 rd = nI D := by rw [F2.1 _ (by decide) (by decide) (by decide) (by decide) (by decide)]; exact hDm
    have epl : hM 76 k = nI (tp B N k) := (px_t X F2 p1.2.2).2.1
    have e6 := p3.1
    refine ⟨am_si (am_si (am_si (am_si hC 9 t kd) 10 t (nI D)) 11 t (nI (tp B N k))) 3 1 (nI (t + 1)), am_si (am_si (am_si (am_si hM 92 (200 * rd + t) kd) 93 (200 * rd + t) (nI D)) 94 (200 * rd + t) (nI (tp B N k))) 86 rd (nI (t + 1)), nI t, nI t, ?_, ?_, Or.inl ⟨c, rfl, rfl, ⟨?_, ?_, ?_⟩, ?_, ?_, ?_, ?_⟩⟩
    · have at' : am_call tb_P (d + 1) 205 [.ref 3, .int kd, .int (nI (tp B N k))] (pr_S, hC, gC) = some (some (.int (nI t)), (pr_S, am_si (am_si (am_si (am_si hC 9 t kd) 10 t (nI D)) 11 t (nI (tp B N k))) 3 1 (nI (t + 1)), gC)) := by
        rw [en_205_3, ht_205_3_0, ch_205_3_0]; (try simp +decide (disch := omega) only [ni_bF, nI_clamp, nI_add, pk_mul, dc_ltT, dc_ltF, dc_leT, dc_leF, dc_eqF, dc_neT, dn_eq, dn_ne, dn_lt, dn_ge, si_at, si_c, si_k, q_at_nI, q_put_nI, ne_eq, not_false_eq_true, not_true_eq_false, ↓reduceIte, v0_ltT, v0_ltF, v0_gtT, v0_gtF, v0_leT, v0_leF, v0_geT, v0_geF, v0_eqT, v0_eqF, v0_add, v0_dda, v0_mul, v0_lum, v0_sub, v0_bad, v0_cl, v200_ltT, v200_ltF, v200_gtT, v200_gtF, v200_leT, v200_leF, v200_geT, v200_geF, v200_eqT, v200_eqF, v200_add, v200_dda, v200_mul, v200_lum, v200_sub, v200_bad, v200_cl, s1, e0, Nat.add_sub_cancel]); rw [ht_205_3_1, ch_205_3_1]; try simp +decide (disch := omega) only [ni_bF, nI_clamp, nI_add, pk_mul, dc_ltT, dc_ltF, dc_leT, dc_leF, dc_eqF, dc_neT, dn_eq, dn_ne, dn_lt, dn_ge, si_at, si_c, si_k, q_at_nI, q_put_nI, ne_eq, not_false_eq_true, not_true_eq_false, ↓reduceIte, v0_ltT, v0_ltF, v0_gtT, v0_gtF, v0_leT, v0_leF, v0_geT, v0_geF, v0_eqT, v0_eqF, v0_add, v0_dda, v0_mul, v0_lum, v0_sub, v0_bad, v0_cl, v1_ltT, v1_ltF, v1_gtT, v1_gtF, v1_leT, v1_leF, v1_geT, v1_geF, v1_eqT, v1_eqF, v1_add, v1_dda, v1_mul, v1_lum, v1_sub, v1_bad, v1_cl, s1, e0, Nat.add_sub_cancel]
      rw [en_198, ht_198_0, ch_198_0]; (try simp +decide (disch := omega) only [ni_bF, nI_clamp, nI_add, pk_mul, dc_ltT, dc_ltF, dc_leT, dc_leF, dc_eqF, dc_neT, dn_eq, dn_ne, dn_lt, dn_ge, si_at, si_c, si_k, q_at_nI, q_put_nI, ne_eq, not_false_eq_true, not_true_eq_false, ↓reduceIte, v0_ltT, v0_ltF, v0_gtT, v0_gtF, v0_leT, v0_leF, v0_geT, v0_geF, v0_eqT, v0_eqF, v0_add, v0_dda, v0_mul, v0_lum, v0_sub, v0_bad, v0_cl, f0, e2]); rw [ht_198_1, ch_198_1, e2, at', ev_rs, ch_198_2]; (try simp +decide (disch := omega) only [ni_bF, nI_clamp, nI_add, pk_mul, dc_ltT, dc_ltF, dc_leT, dc_leF, dc_eqF, dc_neT, dn_eq, dn_ne, dn_lt, dn_ge, si_at, si_c, si_k, q_at_nI, q_put_nI, ne_eq, not_false_eq_true, not_true_eq_false, ↓reduceIte, v0_ltT, v0_ltF, v0_gtT, v0_gtF, v0_leT, v0_leF, v0_geT, v0_geF, v0_eqT, v0_eqF, v0_add, v0_dda, v0_mul, v0_lum, v0_sub, v0_bad, v0_cl, f0, e2]); rw [ht_198_2, ch_198_3]
    · rw [en_31, ht_31_0, ch_31_0]; (try simp +decide (disch := omega) only [ni_bF, nI_clamp, nI_add, pk_mul, dc_ltT, dc_ltF, dc_leT, dc_leF, dc_eqF, dc_neT, dn_eq, dn_ne, dn_lt, dn_ge, si_at, si_c, si_k, q_at_nI, q_put_nI, ne_eq, not_false_eq_true, not_true_eq_false, ↓reduceIte, v0_ltT, v0_ltF, v0_gtT, v0_gtF, v0_leT, v0_leF, v0_geT, v0_geF, v0_eqT, v0_eqF, v0_add, v0_dda, v0_mul, v0_lum, v0_sub, v0_bad, v0_cl, v200_ltT, v200_ltF, v200_gtT, v200_gtF, v200_leT, v200_leF, v200_geT, v200_geF, v200_eqT, v200_eqF, v200_add, v200_dda, v200_mul, v200_lum, v200_sub, v200_bad, v200_cl, m25, mt, ed, e6, epl, Nat.add_sub_cancel]); rw [ht_31_1, ch_31_1]; try simp +decide (disch := omega) only [ni_bF, nI_clamp, nI_add, pk_mul, dc_ltT, dc_ltF, dc_leT, dc_leF, dc_eqF, dc_neT, dn_eq, dn_ne, dn_lt, dn_ge, si_at, si_c, si_k, q_at_nI, q_put_nI, ne_eq, not_false_eq_true, not_true_eq_false, ↓reduceIte, v0_ltT, v0_ltF, v0_gtT, v0_gtF, v0_leT, v0_leF, v0_geT, v0_geF, v0_eqT, v0_eqF, v0_add, v0_dda, v0_mul, v0_lum, v0_sub, v0_bad, v0_cl, v1_ltT, v1_ltF, v1_gtT, v1_gtF, v1_leT, v1_leF, v1_geT, v1_geF, v1_eqT, v1_eqF, v1_add, v1_dda, v1_mul, v1_lum, v1_sub, v1_bad, v1_cl, v200_ltT, v200_ltF, v200_gtT, v200_gtF, v200_leT, v200_leF, v200_geT, v200_geF, v200_eqT, v200_eqF, v200_add, v200_dda, v200_mul, v200_lum, v200_sub, v200_bad, v200_cl, m25, mt, ed, e6, epl, Nat.add_sub_cancel]
    · exact ⟨fun c q1 q2 q3 q4 q5 => by rw [am_si_ne q2, am_si_ne (by omega), am_si_ne (by omega), am_si_ne (by omega)]; exact F1.1 c q1 q2 q3 q4 q5, by rw [am_si_off (by decide), am_si_ne (by decide), am_si_ne (by decide), am_si_ne (by decide)]; exact F1.2.1, by rw [am_si_ne (by decide), am_si_ne (by decide), am_si_ne (by decide), am_si_ne (by decide)]; exact F1.2.2.1, F1.2.2.2⟩
    · exact ⟨fun c q1 q2 q3 q4 q5 => by rw [am_si_ne q3, am_si_ne (by omega), am_si_ne (by omega), am_si_ne (by omega)]; exact F2.1 c q1 q2 q3 q4 q5, fun x a1 a2 a3 a4 a5 a6 a7 => by rw [am_si_ne (by decide), am_si_ne (by decide), am_si_ne (by decide), am_si_ne (by decide)]; exact F2.2.1 x a1 a2 a3 a4 a5 a6 a7, F2.2.2.1, fun c i a1 a2 a3 => by rw [am_si_ne (by omega), am_si_ne (by omega), am_si_ne (by omega), am_si_ne (by omega)]; exact F2.2.2.2.1 c i a1 a2 a3, fun i hi => by rw [am_si_off (by omega), am_si_ne (by decide), am_si_ne (by decide), am_si_ne (by decide)]; exact F2.2.2.2.2.1 i hi, fun c i a1 a2 a3 => by rw [am_si_ne (by omega), am_si_off (by omega), am_si_off (by omega), am_si_off (by omega)]; exact F2.2.2.2.2.2 c i a1 a2 a3⟩
    · refine ⟨?_, ?_, ?_, ⟨p4.1, ?_, ?_, fun x hx => by have := p4.2.2.2 x hx; omega⟩, ⟨am_si_at _ _ _ _, am_si_at _ _ _ _, by omega, fun i hi => ?_⟩, ⟨?_, fun i hi => ?_⟩, p7⟩
      · unfold at_C at p1 ⊢
        rw [am_si_ne (by decide), am_si_ne (by decide), am_si_ne (by decide), am_si_ne (by decide)]; exact p1
      · rw [am_si_ne (by decide), am_si_ne (by decide), am_si_ne (by decide), am_si_ne (by decide)]; exact p2
      · rw [am_si_ne (by decide), am_si_ne (by decide), am_si_ne (by decide), am_si_ne (by decide)]; exact p3
      · rw [am_si_ne (by decide), am_si_ne (by decide), am_si_ne (by decide), am_si_ne (by decide)]; exact p4.2.1
      · rw [am_si_ne (by decide), am_si_ne (by decide), am_si_ne (by decide), am_si_ne (by decide), am_si_ne (by decide), am_si_ne (by decide), am_si_ne (by decide), am_si_ne (by decide)]; exact p4.2.2.1
      · by_cases e : i = t
        · subst e
          simp (disch := decide) only [am_si_ne, am_si_self, upd_at]
          exact ⟨trivial, trivial, trivial⟩
        · have := p5.2.2.2 i (by omega)
          simp (disch := decide) only [am_si_ne, am_si_self]
          simp (disch := omega) only [upd_ne]
          exact this
      · rw [am_si_off (by decide), am_si_ne (by decide), am_si_ne (by decide), am_si_ne (by decide)]; exact p6.1
      · obtain ⟨n1, n2, n3, n4, n5⟩ := p6.2 i hi
        have kk : ∀ a, a < t → (am_si (am_si (am_si (am_si hC 9 t kd) 10 t (nI D)) 11 t (nI (tp B N k))) 3 1 (nI (t + 1))) 9 a = hC 9 a := fun a ha => by
          simp (disch := decide) only [am_si_ne, am_si_self]
          rw [upd_ne (by omega)]
        refine ⟨fun q => ?_, fun q => ?_, fun q => ?_, fun q => ?_, fun q => ?_⟩
        · have := n1 (by simpa (disch := decide) only [am_si_ne] using q)
          unfold rp_N at this ⊢
          simp (disch := decide) only [am_si_ne]
          exact this
        · have := n2 (by simpa (disch := decide) only [am_si_ne] using q)
          simp (disch := decide) only [am_si_ne]
          exact this
        · obtain ⟨a, y1, y2, y3, y4⟩ := n3 (by simpa (disch := decide) only [am_si_ne] using q)
          exact ⟨a, by simp (disch := decide) only [am_si_ne]; exact y1, by omega, by rw [kk a (by omega)]; exact y3, by rw [kk (a + 1) (by omega)]; exact y4⟩
        · obtain ⟨a, y1, y2, y3⟩ := n4 (by simpa (disch := decide) only [am_si_ne] using q)
          exact ⟨a, by simp (disch := decide) only [am_si_ne]; exact y1, by omega, by rw [kk a (by omega)]; exact y3⟩
        · obtain ⟨a, y1, y2, y3, y4⟩ := n5 (by simpa (disch := decide) only [am_si_ne] using q)
          exact ⟨a, by simp (disch := decide) only [am_si_ne]; exact y1, by omega, by rw [kk a (by omega)]; exact y3, by rw [kk (a + 1) (by omega)]; exact y4⟩
    · exact fun c q1 q2 => by rw [am_si_ne q1, am_si_ne (by omega), am_si_ne (by omega), am_si_ne (by omega)]
    · exact fun c i q1 q2 q3 => by rw [am_si_ne (by omega), am_si_off (by omega), am_si_off (by omega), am_si_off (by omega)]
    · simp (disch := decide) only [am_si_ne, am_si_self, upd_at]
    · simp (disch := decide) only [am_si_ne, am_si_self, upd_at]
  · have t2 : t = 200 := by have := p5.2.2.1; omega
    subst t2
    have e2 : hC 1 2 = nI (tp B N k) := p1.1.1
    refine ⟨xfl hC 5 (hC 1 2), xfm2 hM 5 (hM 76 k), -1, 0, ?_, ?_, Or.inr ⟨ps_fl X P (by decide), ?_, ?_⟩⟩
    · have at' : am_call tb_P (d + 1) 205 [.ref 3, .int kd, .int (hC 1 2)] (pr_S, hC, gC) = some (some (.int (-1)), (pr_S, hC, gC)) := by
        rw [en_205_3, ht_205_3_0, ch_205_3_0]; try simp +decide (disch := omega) only [ni_bF, nI_clamp, nI_add, pk_mul, dc_ltT, dc_ltF, dc_leT, dc_leF, dc_eqF, dc_neT, dn_eq, dn_ne, dn_lt, dn_ge, si_at, si_c, si_k, q_at_nI, q_put_nI, ne_eq, not_false_eq_true, not_true_eq_false, ↓reduceIte, v0_ltT, v0_ltF, v0_gtT, v0_gtF, v0_leT, v0_leF, v0_geT, v0_geF, v0_eqT, v0_eqF, v0_add, v0_dda, v0_mul, v0_lum, v0_sub, v0_bad, v0_cl, v200_ltT, v200_ltF, v200_gtT, v200_gtF, v200_leT, v200_leF, v200_geT, v200_geF, v200_eqT, v200_eqF, v200_add, v200_dda, v200_mul, v200_lum, v200_sub, v200_bad, v200_cl, s1]
      rw [en_198, ht_198_0, ch_198_0]; (try simp +decide (disch := omega) only [ni_bF, nI_clamp, nI_add, pk_mul, dc_ltT, dc_ltF, dc_leT, dc_leF, dc_eqF, dc_neT, dn_eq, dn_ne, dn_lt, dn_ge, si_at, si_c, si_k, q_at_nI, q_put_nI, ne_eq, not_false_eq_true, not_true_eq_false, ↓reduceIte, v0_ltT, v0_ltF, v0_gtT, v0_gtF, v0_leT, v0_leF, v0_geT, v0_geF, v0_eqT, v0_eqF, v0_add, v0_dda, v0_mul, v0_lum, v0_sub, v0_bad, v0_cl, f0]); rw [ht_198_1, ch_198_1, at', ev_rs, ch_198_2]; (try simp +decide (disch := omega) only [ni_bF, nI_clamp, nI_add, pk_mul, dc_ltT, dc_ltF, dc_leT, dc_leF, dc_eqF, dc_neT, dn_eq, dn_ne, dn_lt, dn_ge, si_at, si_c, si_k, q_at_nI, q_put_nI, ne_eq, not_false_eq_true, not_true_eq_false, ↓reduceIte, v0_ltT, v0_ltF, v0_gtT, v0_gtF, v0_leT, v0_leF, v0_geT, v0_geF, v0_eqT, v0_eqF, v0_add, v0_dda, v0_mul, v0_lum, v0_sub, v0_bad, v0_cl, f0]); rw [ea_pfail _ f0, ev_rn, ch_198_4, ht_198_2, ch_198_3]
    · rw [en_31, ht_31_0, ch_31_0]; (try simp +decide (disch := omega) only [ni_bF, nI_clamp, nI_add, pk_mul, dc_ltT, dc_ltF, dc_leT, dc_leF, dc_eqF, dc_neT, dn_eq, dn_ne, dn_lt, dn_ge, si_at, si_c, si_k, q_at_nI, q_put_nI, ne_eq, not_false_eq_true, not_true_eq_false, ↓reduceIte, v0_ltT, v0_ltF, v0_gtT, v0_gtF, v0_leT, v0_leF, v0_geT, v0_geF, v0_eqT, v0_eqF, v0_add, v0_dda, v0_mul, v0_lum, v0_sub, v0_bad, v0_cl, v200_ltT, v200_ltF, v200_gtT, v200_gtF, v200_leT, v200_leF, v200_geT, v200_geF, v200_eqT, v200_eqF, v200_add, v200_dda, v200_mul, v200_lum, v200_sub, v200_bad, v200_cl, m25, mt]); rw [em_pfail _ p3.2.1 p3.1 hk, ev_rn, ch_31_2]
    · unfold xfm2; rw [am_si_off (by decide), am_si_at]; decide
    · unfold xfl; rw [am_si_ne (by decide), am_si_off (by decide), am_si_off (by decide)]; exact p2.2.2.1
end OQ
