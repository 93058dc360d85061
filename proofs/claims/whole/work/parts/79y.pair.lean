/-! both parsers side by side: the end of the reading -/
def pd_I (hC hM : Nat → Nat → Int32) (nd nt nn hf : Nat) (sz L bd st : Nat → Nat) : Prop :=
  nd ≤ 24 ∧ nt ≤ 200 ∧ nn ≤ 2900 ∧ hC 3 0 = nI nd ∧ hC 3 1 = nI nt ∧ hC 3 2 = nI nn ∧ hM 85 hf = nI nd ∧ hM 86 hf = nI nt ∧ L 0 = 0 ∧ L nd = nt
  ∧ (∀ d, d < nd → hC 6 d = nI (sz d) ∧ sz d ≤ 4 ∧ hM 90 (24 * hf + d) = nI (sz d) ∧ hM 87 (24 * hf + d) = hC 5 d ∧ hC 7 d = nI (L d) ∧ hM 89 (24 * hf + d) = nI (L d) ∧ hC 8 d = nI (bd d) ∧ hM 88 (24 * hf + d) = nI (2900 * hf + bd d) ∧ bd d < nn ∧ L d + sz d ≤ L (d + 1) ∧ L (d + 1) ≤ nt ∧ (∃ f g, f ≤ 300 ∧ g ≤ 40 ∧ wf_N (hC 12) (hC 13) (hC 14) (hC 15) (hC 16) nd 4000 f g (bd d) (st d) (L d + sz d) (L (d + 1)) (pg_G (L d) (sz d))) ∧ (∀ t, L d ≤ t → t < L (d + 1) → hC 10 t = nI d ∧ (hC 9 t = 0 ↔ t < L d + sz d)))
  ∧ (∀ t, t < nt → hM 92 (200 * hf + t) = hC 9 t ∧ hM 93 (200 * hf + t) = hC 10 t ∧ hM 94 (200 * hf + t) = hC 11 t)
  ∧ (∀ k, k < nn → rp_N (hC 12) (hC 13) (hC 14) (hC 15) (hC 16) hM (2900 * hf) k)
  ∧ (∀ k, k < nn → (hC 12 k = 4 → ∃ a, hC 13 k = nI a ∧ a + 1 < nt ∧ hC 9 a = 4 ∧ hC 9 (a + 1) = 3) ∧ (hC 12 k = 5 → ∃ a, hC 13 k = nI a ∧ a < nt ∧ hC 9 a = 1) ∧ (hC 12 k = 7 → ∃ a, hC 13 k = nI a ∧ a + 1 < nt ∧ hC 9 a = 2 ∧ hC 9 (a + 1) = 2))
theorem ch_lb {c : Nat} (h : ch_l c = true) : ch_b c ≠ true := by
  intro z
  unfold ch_l at h
  unfold ch_b at z
  simp only [Bool.and_eq_true, Bool.or_eq_true, decide_eq_true_eq, beq_iff_eq] at h z
  omega
section RP
variable {H0 H1 hC hM : Nat → Nat → Int32} {G0 G1 gC gM : Nat → Nat → Int64} {B : Nat → Nat} {N M rd D e k n t : Nat} {sz L bd st : Nat → Nat}
theorem rs_pair (d d' : Nat) (X : px H0 H1 G1 B N M rd) (S : df_R H0 G0 H1 G1 B N M rd D k n t sz L bd st hC gC hM gM) : ∃ (hC' : Nat → Nat → Int32) (gC' : Nat → Nat → Int64) (hM' : Nat → Nat → Int32), am_call tb_P (d + 5) 195 [.ref 32] (pr_S, hC, gC) = some (none, (pr_S, hC', gC')) ∧ fx H0 G0 H1 G1 N rd hC' gC' hM' gM ∧ hM' 73 26 = 0 ∧ (∃ w0, hM' 73 32 = nI w0) ∧ ((hC' 32 1 = 0 ∧ hC' 32 0 = hC 32 0 ∧ pd_I hC' hM' D t n rd sz L bd st ∧ ∀ R, (∀ x2 : Int32, am_fwd (am_call tb_P (d' + 1)) (am_run (am_call tb_P (d' + 1)) tb_r46_0 970000) tb_r46_9 258 [(2, .int x2), (1, .int (-1)), (0, .ref 73)] [] (pr_S, hM', gM) = some R) → am_fwd (am_call tb_P (d' + 1)) (am_run (am_call tb_P (d' + 1)) tb_r46_0 990000) tb_r46_2 80 [(0, .ref 73)] [] (pr_S, hM, gM) = some R) ∨ (hC' 32 1 = 3 ∧ ∃ j, j < 2001 ∧ hM' 76 j = hC' 32 0 ∧ ∀ R, (∀ x2 : Int32, am_fwd (am_call tb_P (d' + 1)) (am_run (am_call tb_P (d' + 1)) tb_r46_0 970000) tb_r46_9 258 [(2, .int x2), (1, .int (nI j)), (0, .ref 73)] [] (pr_S, hM', gM) = some R) → am_fwd (am_call tb_P (d' + 1)) (am_run (am_call tb_P (d' + 1)) tb_r46_0 990000) tb_r46_2 80 [(0, .ref 73)] [] (pr_S, hM, gM) = some R)) := by
  obtain ⟨F, P, s0, d0, hD24, J, hLt, dt, w0, e32⟩ := id S
  have X' := px_fx X F
  have hrd := X.2.2.2.2.2.2.1
  have hM2 := X.2.2.2.1
  have hN2 := X.2.2.2.2.2.2.2.2
  have qb := qk_N (B := B) (k := k) hN2
  have hn : n ≤ 2900 := by omega
  have f0 := P.2.1.1
  have f26 : hM 73 26 = 0 := by have := P.2.2.1.2.1; rw [am_si_off (by decide)] at this; exact this
  have e24 : hM 73 24 = nI n := by have := P.2.2.1.2.2.2.2; rw [am_si_off (by decide)] at this; exact this
  have h25 : hM 73 25 = nI rd := X'.2.2.2.2.2.2.2.1
  have s2 : hC 3 2 = nI n := P.2.2.2.2.2.1.1
  have nrs := P.2.2.2.2.2.1.2
  have sm : ∀ c, c ≠ 73 → (am_si hM 73 32 0) c = hM c := fun c q => am_si_ne q
  have k2 : ∀ i, i < n → (hC 12 i = 2 ↔ hM 79 (2900 * rd + i) = 24) := fun i hi => by
    have q := nrs i hi
    constructor
    · intro z
      have := (q.2.1 z).1
      rw [sm _ (by decide)] at this; exact this
    · intro z
      by_cases c : hC 12 i = 2
      · exact c
      · have := (q.1 c).2
        rw [sm _ (by decide)] at this; exact absurd z this
  have nt : ∀ i, i < n → hC 12 i = 2 → ∃ j, j < M ∧ tok B N (tp B N j) = 2 ∧ hC 14 i = nI (tp B N j) ∧ hM 84 i = nI j ∧ ∀ i', i' < i → hC 12 i' = 2 → (hM 84 i').toNatClampNeg ≤ j := fun i hi z => by
    obtain ⟨_, _, _, j, b1, b2, b3, b4, b5, b6⟩ := (nrs i hi).2.1 z
    rw [sm _ (by decide)] at b4 b6
    exact ⟨j, b1, b2, b3, b4, b6⟩
  have fE : ∀ v, ff (fun i => gM 91 (24 * rd + i)) v D 0 = ff (gC 4) v D 0 := fun v => ff_cg (fun i hi => (dt.2 i (by omega)).1)
  obtain ⟨nam, hnam⟩ : ∃ f : Nat → Int64, ∀ i, f i = gM 78 (hM 84 i).toNatClampNeg := ⟨_, fun _ => rfl⟩
  obtain ⟨hC', gC', u1, u2⟩ := rv_loop (gC := gC) (B := B) (nam := nam) d hD24 s0 s2 hn f0 hN2 X'.1 (fun i hi z => by
    obtain ⟨j, j1, j2, j3, j4, _⟩ := nt i hi z
    obtain ⟨c1, c2, c3⟩ := tok_n j2
    refine ⟨tp B N j, c1, j3, j2, ?_, sk_0 (fun q => ch_lb c2 q.2)⟩
    rw [hnam, j4, nI_clamp (by omega)]
    exact ((px_t X' pf_Mr (by omega)).2.2.1 j2).symm) n 0 (by omega) hC gC ⟨fun _ _ _ => rfl, F.2.1, fun _ _ => rfl, fun i' q => absurd q.1 (by omega), fun _ _ => rfl⟩ (fun i' q => absurd q (by omega))
  obtain ⟨hM', v1, v2, v3⟩ := rs_M (hM := hM) (gM := gM) (nam := nam) d' hD24 hrd h25 e24 f26 d0 hn (fun i hi z => by
    obtain ⟨j, j1, j2, j3, j4, _⟩ := nt i hi ((k2 i hi).mpr z)
    exact ⟨j, by omega, j4, by rw [hnam, j4, nI_clamp (by omega)]⟩) (fun i i' l l2 z z' => by
    obtain ⟨j, j1, j2, j3, j4, _⟩ := nt i (by omega) ((k2 i (by omega)).mpr z)
    obtain ⟨j', j1', j2', j3', j4', j5'⟩ := nt i' l2 ((k2 i' l2).mpr z')
    have := j5' i l ((k2 i (by omega)).mpr z)
    rw [j4, nI_clamp (by omega)] at this
    rw [j4, j4']
    exact nI_le this (by omega))
  have call : am_call tb_P (d + 5) 195 [.ref 32] (pr_S, hC, gC) = some (none, (pr_S, hC', gC')) := by
    have p := u1 999999 (by omega)
    rw [en_195, ht_195_0, ch_195_0]
    exact p
  have FM : ∀ (hc : Nat → Nat → Int32) (gc : Nat → Nat → Int64), (∀ c, c ≠ 1 → c ≠ 13 → c ≠ 32 → hc c = hC c) → hc 1 0 = nI N → (∀ c, c ≠ 1 → gc c = gC c) → fx H0 G0 H1 G1 N rd hc gc hM' gM := fun hc gc a b g => by
    obtain ⟨e1, e2, e3, e4, e5, e6, e7, e8, e9, e10⟩ := F
    refine ⟨fun c q1 q2 q3 q4 q5 => by rw [a c q1 (by omega) q4]; exact e1 c q1 q2 q3 q4 q5, b, fun c q1 q2 q3 => by rw [g c q1]; exact e3 c q1 q2 q3, fun c q1 q2 q3 q4 q5 => by rw [v1.1 c q1 (by omega)]; exact e4 c q1 q2 q3 q4 q5, fun x a1 a2 a3 a4 a5 a6 a7 => by rw [v1.2.1 x a1]; exact e5 x a1 a2 a3 a4 a5 a6 a7, e6, fun c i q1 q2 q3 => ?_, fun c i q1 q2 => ?_, fun c i q1 q2 q3 => ?_, fun c i q1 q2 q3 => ?_⟩
    · by_cases ee : c = 80
      · subst ee; rw [v1.2.2.2 i (fun i' l _ => by omega)]; exact e7 _ i q1 q2 q3
      · rw [v1.1 c (by omega) ee]; exact e7 c i q1 q2 q3
    · rw [v1.1 c (by omega) (by omega)]; exact e8 c i q1 q2
    · rw [v1.1 c (by omega) (by omega)]; exact e9 c i q1 q2 q3
    · rw [v1.1 c (by omega) (by omega)]; exact e10 c i q1 q2 q3
  refine ⟨hC', gC', hM', call, ?_, by rw [v1.2.1 _ (by decide)]; exact f26, ⟨w0, by rw [v1.2.1 _ (by decide)]; exact e32⟩, ?_⟩
  · rcases u2 with ⟨r, _⟩ | ⟨_, _, _, _, _, _, _, r1, r2, r3⟩
    · exact FM hC' gC' (fun c q1 q2 _ => r.1 c q1 q2) r.2.1 r.2.2.1
    · exact FM hC' gC' r1 r3 r2
  · rcases u2 with ⟨⟨r1, r2, r3, r4, r5⟩, all⟩ | ⟨a, a1, a2, a3, a4, a5, a6, a7, a8, a9⟩
    · refine Or.inl ⟨by rw [r1 _ (by decide) (by decide)]; exact f0, by rw [r1 _ (by decide) (by decide)], ?_, v2 (fun i hi z => by rw [fE]; exact all i hi ((k2 i hi).mpr z))⟩
      have cs : ∀ c, c ≠ 1 → c ≠ 13 → hC' c = hC c := r1
      have cm : ∀ c, c ≠ 73 → c ≠ 80 → hM' c = hM c := v1.1
      have t200 := P.2.2.2.2.1.2.2.1
      have mt : hM 86 rd = nI t := by have := P.2.2.2.2.1.2.1; rw [am_si_ne (by decide)] at this; exact this
      have hK : hC' 12 = hC 12 := cs _ (by decide) (by decide)
      refine ⟨hD24, t200, hn, by rw [cs _ (by decide) (by decide)]; exact s0, by rw [cs _ (by decide) (by decide)]; exact P.2.2.2.2.1.1, by rw [cs _ (by decide) (by decide)]; exact s2, by rw [cm _ (by decide) (by decide)]; exact d0, by rw [cm _ (by decide) (by decide)]; exact mt, dt.1, hLt, fun x hx => ?_, fun i hi => ?_, fun i hi => ?_, fun i hi => ?_⟩
      · obtain ⟨a1, a2, a3, a4, a5, a6, a7, a8, a9, b1, b2, b3, ⟨f, g, f1, f2, f3⟩, b5⟩ := dt.2 x hx
        rw [cs 6 (by decide) (by decide), cs 5 (by decide) (by decide), cs 7 (by decide) (by decide), cs 8 (by decide) (by decide), cs 10 (by decide) (by decide), cs 9 (by decide) (by decide), cm 90 (by decide) (by decide), cm 87 (by decide) (by decide), cm 89 (by decide) (by decide), cm 88 (by decide) (by decide), hK, cs 14 (by decide) (by decide), cs 15 (by decide) (by decide), cs 16 (by decide) (by decide)]
        refine ⟨a3, a4, a5, a2, a6, a7, a8, a9, b1, b2, by omega, ⟨f, g, f1, f2, ?_⟩, b5⟩
        refine wf_le (show bd x + 1 ≤ 4000 by omega) (wf_res (lim := n) (M := mk hC) (fun i hi z => ?_) (fun i hi z => ?_) b1 f3)
        · have al := all i hi z
          rw [r4 i ⟨hi, z⟩]
          cases hf : ff (gC 4) (nam i) D 0 with
          | none => exact absurd hf al
          | some j => exact ⟨j, rfl, by have := ff_lt hf; omega⟩
        · rw [r5 i (fun q => z q.2)]
          unfold mk
          rw [if_neg z]
      · have := P.2.2.2.2.1.2.2.2 i hi
        rw [sm _ (by decide), sm _ (by decide), sm _ (by decide)] at this
        rw [cm 92 (by decide) (by decide), cm 93 (by decide) (by decide), cm 94 (by decide) (by decide), cs 9 (by decide) (by decide), cs 10 (by decide) (by decide), cs 11 (by decide) (by decide)]
        exact this
      · by_cases c : hC 12 i = 2
        · have no : ∀ {p : Prop} {b : Int32}, (2 : Int32) ≠ b → (hC' 12 i = b → p) := fun h q => absurd ((by rw [hK, c] : hC' 12 i = 2).symm.trans q) h
          refine ⟨no (by decide), no (by decide), fun _ => ⟨?_, ?_⟩, no (by decide), no (by decide), no (by decide), no (by decide), no (by decide), no (by decide), no (by decide)⟩
          · rw [cm _ (by decide) (by decide)]; exact (k2 i hi).mp c
          · rw [v1.2.2.1 i hi ((k2 i hi).mp c), r4 i ⟨hi, c⟩, fE]
        · have q := ((nrs i hi).1 c).1
          have mo : hM' 80 (2900 * rd + i) = hM 80 (2900 * rd + i) := v1.2.2.2 _ (fun i' l z => fun q => by
            have : i' = i := by omega
            subst this
            exact c ((k2 i' hi).mpr z))
          unfold rp_N at q ⊢
          rw [sm _ (by decide), sm _ (by decide), sm _ (by decide), sm _ (by decide), sm _ (by decide)] at q
          rw [hK, cs 14 (by decide) (by decide), cs 15 (by decide) (by decide), cs 16 (by decide) (by decide), r5 i (fun q => c q.2), cm 79 (by decide) (by decide), cm 81 (by decide) (by decide), cm 82 (by decide) (by decide), cm 83 (by decide) (by decide), mo]
          exact q
      · have q := (nrs i hi).2.2
        rw [hK, cs 9 (by decide) (by decide)]
        by_cases c : hC 12 i = 2
        · exact ⟨fun z => absurd (c.symm.trans z) (by decide), fun z => absurd (c.symm.trans z) (by decide), fun z => absurd (c.symm.trans z) (by decide)⟩
        · rw [r5 i (fun q => c q.2)]
          exact q
    · obtain ⟨j, j1, j2, j3, j4, _⟩ := nt a a1 a2
      refine Or.inr ⟨a5, j, by omega, ?_, fun R hR => v3 a a1 ((k2 a a1).mp a2) (by rw [fE]; exact a3) (fun i l z => by rw [fE]; exact a4 i l ((k2 i (by omega)).mpr z)) R (fun x2 => by rw [j4]; exact hR x2)⟩
      rw [v1.1 _ (by decide) (by decide), a6, j3]
      exact (px_t X' pf_Mr (by omega)).2.1
end RP
