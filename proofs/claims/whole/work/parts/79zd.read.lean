/-! one whole reading: the class's parse against the reference's read -/
def rf_M (m m' : Nat → Nat → Int32) (hf : Nat) : Prop := (∀ c, c < 73 ∨ 97 ≤ c → m' c = m c) ∧ (∀ x, x = 7 ∨ x = 36 ∨ x = 74 → m' 73 x = m 73 x) ∧ m' 73 1 = 0 ∧ (∃ w, m' 73 32 = nI w)
  ∧ (∀ c i, 79 ≤ c → c ≤ 83 → 2900 * hf ≤ i → i < 2900 * hf + 2900 → m' c i = m c i) ∧ (∀ c, c = 85 ∨ c = 86 → m' c hf = m c hf)
  ∧ (∀ c i, 86 < c → c ≤ 90 → 24 * hf ≤ i → i < 24 * hf + 24 → m' c i = m c i) ∧ (∀ c i, 92 ≤ c → c ≤ 94 → 200 * hf ≤ i → i < 200 * hf + 200 → m' c i = m c i)
def gf_M (m m' : Nat → Nat → Int32) (hf : Nat) : Prop := (∀ c, c < 73 ∨ 97 ≤ c → c ≠ 97 → c ≠ 98 → c ≠ 127 → c ≠ 128 → m' c = m c) ∧ m' 73 7 = nI (1 - hf) ∧ m' 73 28 = -1 ∧ m' 73 36 = 0 ∧ m' 73 74 = 0 ∧ m' 73 1 = 0 ∧ (∃ w, m' 73 32 = nI w) ∧ (∀ k, k < 192 → m' 97 k = 0 ∧ m' 98 k = 0) ∧ (∀ t, t < 200 → m' 127 t = 0) ∧ (∀ k, k < 7 → m' 128 k = 0)
section RR
variable {h m m' hC : Nat → Nat → Int32} {g mg : Nat → Nat → Int64} {B : Nat → Nat} {N hf w0 nd nt nn : Nat} {sz L bd st : Nat → Nat}
theorem pd_cg (o : ∀ c, pg_c c → 73 < c → m' c = m c) (P : pd_I hC m nd nt nn hf sz L bd st) : pd_I hC m' nd nt nn hf sz L bd st := by
  have b5 := o 79 (by unfold pg_c; omega) (by decide)
  have b6 := o 80 (by unfold pg_c; omega) (by decide)
  have b7 := o 81 (by unfold pg_c; omega) (by decide)
  have b8 := o 82 (by unfold pg_c; omega) (by decide)
  have b9 := o 83 (by unfold pg_c; omega) (by decide)
  have c1 := o 85 (by unfold pg_c; omega) (by decide)
  have c2 := o 86 (by unfold pg_c; omega) (by decide)
  have c3 := o 87 (by unfold pg_c; omega) (by decide)
  have c4 := o 88 (by unfold pg_c; omega) (by decide)
  have c5 := o 89 (by unfold pg_c; omega) (by decide)
  have c6 := o 90 (by unfold pg_c; omega) (by decide)
  have c7 := o 92 (by unfold pg_c; omega) (by decide)
  have c8 := o 93 (by unfold pg_c; omega) (by decide)
  have c9 := o 94 (by unfold pg_c; omega) (by decide)
  unfold pd_I rp_N at P ⊢
  rw [b5, b6, b7, b8, b9, c1, c2, c3, c4, c5, c6, c7, c8, c9]
  exact P
theorem rd_pair (e : Nat) (TC : tx_C h B N) (TM : tx_M m B N) (hhf : hf < 2) (h7 : m 73 7 = nI hf) (h32 : m 73 32 = nI w0) : ∃ (r : Int32) (hC : Nat → Nat → Int32) (gC : Nat → Nat → Int64) (m' : Nat → Nat → Int32) (mg' : Nat → Nat → Int64), am_call tb_P (e + 341) 174 [.ref 32] (pr_S, h, g) = some (some (.int r), (pr_S, hC, gC)) ∧ (∀ c, c ≠ 1 → c ≠ 3 → (c < 5 ∨ 16 < c) → c ≠ 32 → c ≠ 34 → hC c = h c) ∧ ((r ≠ 0 ∧ am_call tb_P (e + 341) 46 [.ref 73] (pr_S, m, mg) = some (some (.int (-10 - r)), (pr_S, m', mg')) ∧ rf_M m m' hf ∧ m' 73 28 = hC 32 0) ∨ (r = 0 ∧ hC 32 0 = -1 ∧ ∃ D t n sz L bd st, pd_I hC m' D t n (1 - hf) sz L bd st ∧ am_call tb_P (e + 341) 46 [.ref 73] (pr_S, m, mg) = some (some (.int (nI D)), (pr_S, m', mg')) ∧ gf_M m m' hf)) := by
  obtain ⟨h1, g1, M, F, S, s1, s2, s3, s4, s5, s6⟩ := mr_start (gM := mg) (e + 338) TM hhf h7
  obtain ⟨h2, e2⟩ : ∃ x, x = am_si (am_si (am_si (am_si (am_si (am_si (am_si h1 73 1 0) 73 25 (nI (1 - hf))) 73 26 0) 85 (1 - hf) 0) 86 (1 - hf) 0) 73 24 0) 73 29 0 := ⟨_, rfl⟩
  rw [← e2] at s6
  have o2 : ∀ c, c ≠ 73 → c ≠ 85 → c ≠ 86 → h2 c = h1 c := fun c q1 q2 q3 => by rw [e2, am_si_ne q1, am_si_ne q1, am_si_ne q3, am_si_ne q2, am_si_ne q1, am_si_ne q1, am_si_ne q1]
  have o3 : ∀ c i, c ≠ 73 → i ≠ 1 - hf → h2 c i = h1 c i := fun c i q1 q2 => by rw [e2, am_si_ne q1, am_si_ne q1, am_si_off (fun z => q2 z.2), am_si_off (fun z => q2 z.2), am_si_ne q1, am_si_ne q1, am_si_ne q1]
  have oM : ∀ x, x ≠ 1 → x ≠ 25 → x ≠ 26 → x ≠ 24 → x ≠ 29 → h2 73 x = h1 73 x := fun x a b c d e => by rw [e2, am_si_off (fun z => e z.2), am_si_off (fun z => d z.2), am_si_ne (by decide), am_si_ne (by decide), am_si_off (fun z => c z.2), am_si_off (fun z => b z.2), am_si_off (fun z => a z.2)]
  have S2 : ct_S h2 g1 B N M := by
    unfold ct_S at S ⊢
    rw [o2 75 (by decide) (by decide) (by decide), o2 76 (by decide) (by decide) (by decide), o2 77 (by decide) (by decide) (by decide)]
    exact S
  have m25 : h2 73 25 = nI (1 - hf) := by rw [e2, am_si_off (by decide), am_si_off (by decide), am_si_ne (by decide), am_si_ne (by decide), am_si_off (by decide), am_si_at]
  have X : px h h2 g1 B N M (1 - hf) := ⟨TC.2.2, S2, s1, s2, by rw [o2 _ (by decide) (by decide) (by decide)]; exact s3, by rw [o2 _ (by decide) (by decide) (by decide)]; exact s4, by omega, m25, TC.2.1⟩
  have m1 : h2 73 1 = 0 := by rw [e2, am_si_off (by decide), am_si_off (by decide), am_si_ne (by decide), am_si_ne (by decide), am_si_off (by decide), am_si_off (by decide), am_si_at]
  obtain ⟨r, hC, gC, hM', gM', p1, p2, ⟨w, p3⟩, p4, p5⟩ := parse_pair (e := e) (gl := g) (w0 := w0) X TC.1 (by rw [oM _ (by decide) (by decide) (by decide) (by decide) (by decide)]; exact s5) (by rw [e2, am_si_off (by decide), am_si_off (by decide), am_si_ne (by decide), am_si_ne (by decide), am_si_at]) (by rw [e2, am_si_at]) (by rw [e2, am_si_off (by decide), am_si_at]) (by rw [oM _ (by decide) (by decide) (by decide) (by decide) (by decide), F.2.1 _ (by decide)]; exact h32) (by rw [e2, am_si_ne (by decide), am_si_ne (by decide), am_si_at]) (by rw [e2, am_si_ne (by decide), am_si_ne (by decide), am_si_ne (by decide), am_si_at])
  obtain ⟨f1, f2, f3, f4, f5, f6, f7, f8, f9, f10⟩ := p2
  have c97 : ∀ c, c < 73 ∨ 97 ≤ c → hM' c = m c := fun c q => by rw [f4 c (by omega) (by omega) (by omega) (by omega) (by omega), o2 c (by omega) (by omega) (by omega), F.1 c (by omega) (by omega) (by omega) (by omega)]
  have mo : ∀ x, x = 7 ∨ x = 36 ∨ x = 74 → hM' 73 x = m 73 x := fun x q => by rw [f5 x (by omega) (by omega) (by omega) (by omega) (by omega) (by omega) (by omega), oM x (by omega) (by omega) (by omega) (by omega) (by omega), F.2.1 x (by omega)]
  have mo1 : hM' 73 1 = 0 := by rw [f5 1 (by omega) (by omega) (by omega) (by omega) (by omega) (by omega) (by omega)]; exact m1
  rcases p5 with ⟨z1, z2, ⟨D, t, n, sz, L, bd, st, P⟩, z3⟩ | ⟨z1, z2, z3⟩
  · have h25 : hM' 73 25 = nI (1 - hf) := by rw [f5 25 (by omega) (by omega) (by omega) (by omega) (by omega) (by omega) (by omega)]; exact m25
    obtain ⟨h3, v1, v2, v3⟩ := rt_good (gM := gM') (e + 339) (rd := 1 - hf) (by omega) h25 (p4.trans z1)
    have q := s6 _ (z3 _ (fun x2 => v3 _ x2))
    rw [P.2.2.2.2.2.2.1] at q
    have w1 : ∀ x, x ≠ 28 → x ≠ 7 → h3 73 x = hM' 73 x := fun x a b => by rw [v1 _ (by decide) (by decide), am_si_off (fun z => b z.2), am_si_off (fun z => a z.2)]
    refine ⟨r, hC, gC, _, gM', p1, f1, Or.inr ⟨z1, z2, D, t, n, sz, L, bd, st, pd_cg (fun c q1 q2 => ?_) P, q, fun c q1 q2 q3 q4 q5 => ?_, ?_, ?_, ?_, ?_, ?_, ⟨w, ?_⟩, fun k hk => ?_, fun t ht => ?_, fun k hk => ?_⟩⟩
    · unfold pg_c at q1
      rw [am_si_ne (by omega), fl_other (by omega), fl_other (by omega), am_si_ne (by omega), v1 c (by omega) (by omega), am_si_ne (by omega), am_si_ne (by omega)]
    · rw [am_si_ne (by omega), fl_other q5, fl_other q4, am_si_ne (by omega), v1 c q2 q3, am_si_ne (by omega), am_si_ne (by omega)]
      exact c97 c q1
    · rw [am_si_off (by decide), fl_other (by decide), fl_other (by decide), am_si_off (by decide), v1 _ (by decide) (by decide), am_si_at]
    · rw [am_si_off (by decide), fl_other (by decide), fl_other (by decide), am_si_off (by decide), v1 _ (by decide) (by decide), am_si_off (by decide), am_si_at]
    · rw [am_si_off (by decide), fl_other (by decide), fl_other (by decide), am_si_at]
    · rw [am_si_at]
    · rw [am_si_off (by decide), fl_other (by decide), fl_other (by decide), am_si_off (by decide), w1 _ (by decide) (by decide)]; exact mo1
    · rw [am_si_off (by decide), fl_other (by decide), fl_other (by decide), am_si_off (by decide), w1 _ (by decide) (by decide)]; exact p3
    · rw [am_si_ne (by decide), fl_other (by decide), fl_other (by decide), am_si_ne (by decide), am_si_ne (by decide), fl_other (by decide), fl_other (by decide), am_si_ne (by decide)]
      exact v2 k hk
    · rw [am_si_ne (by decide), fl_other (by decide), fl_in ht]
    · rw [am_si_ne (by decide), fl_in hk]
  · have nz : hM' 73 26 ≠ 0 := by rw [p4]; exact z1
    have q := s6 _ (z3 _ (fun x1 x2 => rt_fail (gM := gM') (am_call tb_P (e + 340)) 960000 nz))
    rw [p4] at q
    refine ⟨r, hC, gC, _, gM', p1, f1, Or.inl ⟨z1, q, ⟨fun c hc => ?_, fun x hx => ?_, ?_, ⟨w, ?_⟩, fun c i q1 q2 q3 q4 => ?_, fun c q1 => ?_, fun c i q1 q2 q3 q4 => ?_, fun c i q1 q2 q3 q4 => ?_⟩, by rw [am_si_at]; exact z2⟩⟩
    · rw [am_si_ne (by omega)]; exact c97 c hc
    · rw [am_si_off (by omega)]; exact mo x hx
    · rw [am_si_off (by decide)]; exact mo1
    · rw [am_si_off (by decide)]; exact p3
    · rw [am_si_ne (by omega), f7 c i q1 q2 (by omega), o2 c (by omega) (by omega) (by omega), F.1 c (by omega) (by omega) (by omega) (by omega)]
    · rw [am_si_ne (by omega), f8 c hf q1 (by omega), o3 c hf (by omega) (by omega), F.1 c (by omega) (by omega) (by omega) (by omega)]
    · rw [am_si_ne (by omega), f9 c i q1 q2 (by omega), o2 c (by omega) (by omega) (by omega), F.1 c (by omega) (by omega) (by omega) (by omega)]
    · rw [am_si_ne (by omega), f10 c i q1 q2 (by omega), o2 c (by omega) (by omega) (by omega), F.1 c (by omega) (by omega) (by omega) (by omega)]
/-- the class's half first, then the reference's on whatever heap -/
theorem rd_all (e : Nat) (TC : tx_C h B N) (TM : tx_M h B N) (hhf : hf < 2) (h7 : h 73 7 = nI hf) (h32 : h 73 32 = nI w0) : ∃ (r : Int32) (hC : Nat → Nat → Int32) (gC : Nat → Nat → Int64), am_call tb_P (e + 341) 174 [.ref 32] (pr_S, h, g) = some (some (.int r), (pr_S, hC, gC)) ∧ (∀ c, c ≠ 1 → c ≠ 3 → (c < 5 ∨ 16 < c) → c ≠ 32 → c ≠ 34 → hC c = h c) ∧ ((r = 0 ∧ ∃ D t n, hC 3 0 = nI D ∧ hC 3 1 = nI t ∧ hC 3 2 = nI n ∧ D ≤ 24 ∧ t ≤ 200 ∧ n ≤ 2900) ∨ r ≠ 0) ∧ ∀ (m : Nat → Nat → Int32) (mg : Nat → Nat → Int64), tx_M m B N → m 73 7 = nI hf → m 73 32 = nI w0 → ∃ (m' : Nat → Nat → Int32) (mg' : Nat → Nat → Int64), ((r ≠ 0 ∧ am_call tb_P (e + 341) 46 [.ref 73] (pr_S, m, mg) = some (some (.int (-10 - r)), (pr_S, m', mg')) ∧ rf_M m m' hf ∧ m' 73 28 = hC 32 0) ∨ (r = 0 ∧ hC 32 0 = -1 ∧ ∃ D t n sz L bd st, pd_I hC m' D t n (1 - hf) sz L bd st ∧ am_call tb_P (e + 341) 46 [.ref 73] (pr_S, m, mg) = some (some (.int (nI D)), (pr_S, m', mg')) ∧ gf_M m m' hf)) := by
  obtain ⟨r, hC, gC, m', mg', p1, p2, p3⟩ := rd_pair (g := g) (mg := g) e TC TM hhf h7 h32
  refine ⟨r, hC, gC, p1, p2, ?_, fun m mg a1 a2 a3 => ?_⟩
  · rcases p3 with ⟨z, _⟩ | ⟨z, _, D, t, n, sz, L, bd, st, P, _⟩
    · exact Or.inr z
    · exact Or.inl ⟨z, D, t, n, P.2.2.2.1, P.2.2.2.2.1, P.2.2.2.2.2.1, P.1, P.2.1, P.2.2.1⟩
  · obtain ⟨r2, hC2, gC2, m2, mg2, q1, q2, q3⟩ := rd_pair (g := g) (mg := mg) e TC a1 hhf a2 a3
    have e1 := Option.some.inj (p1.symm.trans q1)
    have e2 := Value.int.inj (Option.some.inj (Prod.mk.inj e1).1)
    have e3 := (Prod.mk.inj (Prod.mk.inj (Prod.mk.inj e1).2).2).1
    subst e2
    subst e3
    exact ⟨m2, mg2, q3⟩
end RR
