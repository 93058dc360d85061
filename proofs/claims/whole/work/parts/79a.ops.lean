/-! both parsers side by side: the state, small steps -/
def px (h0 h1 : Nat → Nat → Int32) (g1 : Nat → Nat → Int64) (B : Nat → Nat) (N M rd : Nat) : Prop := (∀ p, p < N → B p < 256 ∧ h0 2 p = by_c (B p)) ∧ ct_S h1 g1 B N M ∧ tp B N M = N ∧ M ≤ 2000 ∧ h1 75 M = 0 ∧ h1 76 M = nI N ∧ rd < 2 ∧ h1 73 25 = nI rd ∧ N ≤ 2000
def pf_C (h0 : Nat → Nat → Int32) (g0 : Nat → Nat → Int64) (N : Nat) (hC : Nat → Nat → Int32) (gC : Nat → Nat → Int64) : Prop := (∀ c, c ≠ 1 → c ≠ 3 → (c < 9 ∨ 16 < c) → c ≠ 32 → c ≠ 34 → hC c = h0 c) ∧ hC 3 0 = h0 3 0 ∧ hC 1 0 = nI N ∧ (∀ c, c ≠ 1 → c ≠ 33 → gC c = g0 c)
def pf_M (h1 : Nat → Nat → Int32) (g1 : Nat → Nat → Int64) (rd : Nat) (hM : Nat → Nat → Int32) (gM : Nat → Nat → Int64) : Prop := (∀ c, c ≠ 73 → (c < 79 ∨ 84 < c) → c ≠ 86 → (c < 92 ∨ 94 < c) → c ≠ 96 → hM c = h1 c) ∧ (∀ x, x ≠ 6 → x ≠ 24 → x ≠ 26 → x ≠ 27 → x ≠ 29 → x ≠ 32 → x ≠ 33 → hM 73 x = h1 73 x) ∧ (∀ c, c ≠ 95 → gM c = g1 c) ∧ (∀ c i, 79 ≤ c → c ≤ 83 → (i < 2900 * rd ∨ 2900 * rd + 2900 ≤ i) → hM c i = h1 c i) ∧ (∀ i, i ≠ rd → hM 86 i = h1 86 i) ∧ (∀ c i, 92 ≤ c → c ≤ 94 → (i < 200 * rd ∨ 200 * rd + 200 ≤ i) → hM c i = h1 c i)
/-- what is in scope, the innermost first -/
def sc_G (T : Nat → Int32) : List Nat → Prop
  | [] => True
  | x :: G => T G.length = nI x ∧ sc_G T G
/-- a NODE in both, while the NAMES of DEFS are not yet looked up -/
def nr (K Mk A Bb C GK : Nat → Int32) (h : Nat → Nat → Int32) (B : Nat → Nat) (N M kk t z i : Nat) : Prop :=
  (K i ≠ 2 → rp_N K Mk A Bb C h z i ∧ h 79 (z + i) ≠ 24) ∧ (K i = 2 → h 79 (z + i) = 24 ∧ h 80 (z + i) = -1 ∧ Mk i = -1 ∧ ∃ j, j < M ∧ tok B N (tp B N j) = 2 ∧ A i = nI (tp B N j) ∧ h 84 i = nI j ∧ j ≤ kk ∧ ∀ i', i' < i → K i' = 2 → (h 84 i').toNatClampNeg ≤ j)
  ∧ (K i = 4 → ∃ a, Mk i = nI a ∧ a + 1 < t ∧ GK a = 4 ∧ GK (a + 1) = 3) ∧ (K i = 5 → ∃ a, Mk i = nI a ∧ a < t ∧ GK a = 1) ∧ (K i = 7 → ∃ a, Mk i = nI a ∧ a + 1 < t ∧ GK a = 2 ∧ GK (a + 1) = 2)
def po (hC : Nat → Nat → Int32) (gC : Nat → Nat → Int64) (hM : Nat → Nat → Int32) (gM : Nat → Nat → Int64) (B : Nat → Nat) (N M rd k o n t w : Nat) (G : List Nat) : Prop :=
  (at_C hC gC B N (tp B N k) ∧ tok B N (tp B N k) ≠ 1 ∧ k ≤ M)
  ∧ (hC 32 1 = 0 ∧ hC 32 2 = nI o ∧ hC 32 3 = nI w ∧ hC 32 0 = -1)
  ∧ (hM 73 6 = nI k ∧ hM 73 26 = 0 ∧ hM 73 29 = nI o ∧ hM 73 32 = nI w ∧ hM 73 24 = nI n)
  ∧ (G.length = w ∧ sc_G (hC 34) G ∧ (∀ i, i < w → hM 96 i = hC 34 i ∧ gM 95 i = gC 33 i) ∧ (∀ x ∈ G, x < t))
  ∧ (hC 3 1 = nI t ∧ hM 86 rd = nI t ∧ t ≤ 200 ∧ ∀ i, i < t → hM 92 (200 * rd + i) = hC 9 i ∧ hM 93 (200 * rd + i) = hC 10 i ∧ hM 94 (200 * rd + i) = hC 11 i)
  ∧ (hC 3 2 = nI n ∧ ∀ i, i < n → nr (hC 12) (hC 13) (hC 14) (hC 15) (hC 16) (hC 9) hM B N M k t (2900 * rd) i)
  ∧ o ≤ 40 ∧ w ≤ 4 + 2 * o
def pb (hC hM : Nat → Nat → Int32) (B : Nat → Nat) (N M k n w : Nat) : Prop := ∃ (f : Int32) (p : Nat), hC 32 1 = f ∧ f ≠ 0 ∧ hC 32 0 = nI p ∧ hC 1 1 = 257 ∧ hM 73 6 = nI k ∧ k ≤ M ∧ hM 73 24 = nI n ∧ hM 73 32 = nI w ∧ ((hM 73 26 = 0 ∧ f = 1 ∧ p = tp B N k ∧ tok B N (tp B N k) = 1) ∨ (hM 73 26 = f ∧ hM 73 27 = nI p))
def ps_O (h0 : Nat → Nat → Int32) (g0 : Nat → Nat → Int64) (h1 : Nat → Nat → Int32) (g1 : Nat → Nat → Int64) (B : Nat → Nat) (N M rd : Nat) (hC : Nat → Nat → Int32) (gC : Nat → Nat → Int64) (hM : Nat → Nat → Int32) (gM : Nat → Nat → Int64) (k o n t w : Nat) (G : List Nat) : Prop := pf_C h0 g0 N hC gC ∧ pf_M h1 g1 rd hM gM ∧ po hC gC hM gM B N M rd k o n t w G
def ps_B (h0 : Nat → Nat → Int32) (g0 : Nat → Nat → Int64) (h1 : Nat → Nat → Int32) (g1 : Nat → Nat → Int64) (B : Nat → Nat) (N M rd : Nat) (hC : Nat → Nat → Int32) (gC : Nat → Nat → Int64) (hM : Nat → Nat → Int32) (gM : Nat → Nat → Int64) (k n w : Nat) : Prop := pf_C h0 g0 N hC gC ∧ pf_M h1 g1 rd hM gM ∧ pb hC hM B N M k n w
theorem cl_1 : cl 1 = 257 := rfl
theorem cl_0 : cl 0 = 256 := rfl
theorem cl_e {a b : Nat} (ha : a < 256) (hb : b < 256) : cl a = cl b ↔ a = b := by
  refine ⟨fun h => ?_, fun h => by rw [h]⟩
  unfold cl at h
  split at h <;> split at h
  · have := (nI_eq (by omega) (by omega)).mp h; omega
  · have := (nI_eq (by omega) (by omega)).mp h; omega
  · have := (nI_eq (by omega) (by omega)).mp h; omega
  · exact (nI_eq (by omega) (by omega)).mp h
section OP
variable {h0 h1 hC hM : Nat → Nat → Int32} {g0 g1 gC gM : Nat → Nat → Int64} {B : Nat → Nat} {N M rd k o n t w : Nat} {G : List Nat}
theorem tok_l (X : px h0 h1 g1 B N M rd) (s : Nat) : tok B N s < 256 := by
  unfold tok
  by_cases c : N ≤ s
  · rw [if_pos c]; omega
  · rw [if_neg c]
    split
    · split
      · omega
      · have := wd_le (nm B s (la B N s - s)); omega
    · split
      · split <;> omega
      · split
        · exact (X.1 s (by omega)).1
        · omega
/-- the reference's token and place, at the k-th -/
theorem px_t (X : px h0 h1 g1 B N M rd) (F : pf_M h1 g1 rd hM gM) (hk : k ≤ M) : hM 75 k = nI (tok B N (tp B N k)) ∧ hM 76 k = nI (tp B N k) ∧ (tok B N (tp B N k) = 2 → gM 78 k = nm B (tp B N k) (la B N (tp B N k) - tp B N k)) ∧ (tok B N (tp B N k) = 3 → hM 77 k = nv B (tp B N k) (lf B N (tp B N k) - tp B N k)) := by
  obtain ⟨x1, x2, x3, x4, x5, x6, x7, x8, x9⟩ := X
  rw [F.1 75 (by decide) (by decide) (by decide) (by decide) (by decide), F.1 76 (by decide) (by decide) (by decide) (by decide) (by decide), F.1 77 (by decide) (by decide) (by decide) (by decide) (by decide), F.2.2.1 78 (by decide)]
  by_cases e : k = M
  · subst e
    rw [x3, tok_0.mpr (Nat.le_refl _), x5, x6]
    exact ⟨rfl, rfl, fun q => absurd q (by decide), fun q => absurd q (by decide)⟩
  · exact (x2 k (by omega)).2
theorem px_lt (X : px h0 h1 g1 B N M rd) (h : tok B N (tp B N k) ≠ 0) : k < M := by
  rcases Nat.lt_or_ge k M with q | q
  · exact q
  · exact absurd (tok_0.mpr (Nat.le_of_eq (tp_L X.2.2.1 q).symm)) h
theorem px_T (X : px h0 h1 g1 B N M rd) (F : pf_C h0 g0 N hC gC) : tx_C hC B N := ⟨F.2.2.1, X.2.2.2.2.2.2.2.2, fun p hp => by
  rw [F.1 2 (by decide) (by decide) (by decide) (by decide) (by decide)]
  exact X.1 p hp⟩
/-- the control of the class: cells TX and PA alone have changed -/
theorem pf_Cc {hC' : Nat → Nat → Int32} {gC' : Nat → Nat → Int64} (F : pf_C h0 g0 N hC gC) (a : ∀ c, c ≠ 1 → c ≠ 32 → hC' c = hC c) (a0 : hC' 1 0 = hC 1 0) (b : ∀ c, c ≠ 1 → gC' c = gC c) : pf_C h0 g0 N hC' gC' := ⟨fun c q1 q2 q3 q4 q5 => by rw [a c q1 q4]; exact F.1 c q1 q2 q3 q4 q5, by rw [a _ (by decide) (by decide)]; exact F.2.1, by rw [a0]; exact F.2.2.1, fun c q1 q2 => by rw [b c q1]; exact F.2.2.2 c q1 q2⟩
theorem pf_Mo {j : Nat} {v : Int32} (hj : j = 6 ∨ j = 24 ∨ j = 26 ∨ j = 27 ∨ j = 29 ∨ j = 32 ∨ j = 33) (F : pf_M h1 g1 rd hM gM) : pf_M h1 g1 rd (am_si hM 73 j v) gM := ⟨fun c q1 q2 q3 q4 q5 => by rw [am_si_ne q1]; exact F.1 c q1 q2 q3 q4 q5, fun x a1 a2 a3 a4 a5 a6 a7 => by rw [am_si_off (by omega)]; exact F.2.1 x a1 a2 a3 a4 a5 a6 a7, F.2.2.1, fun c i a1 a2 a3 => by rw [am_si_ne (by omega)]; exact F.2.2.2.1 c i a1 a2 a3, fun i hi => by rw [am_si_ne (by decide)]; exact F.2.2.2.2.1 i hi, fun c i a1 a2 a3 => by rw [am_si_ne (by omega)]; exact F.2.2.2.2.2 c i a1 a2 a3⟩
theorem nr_k {K Mk A Bb C GK : Nat → Int32} {h : Nat → Nat → Int32} {k k' z i : Nat} (hk : k ≤ k') (w : nr K Mk A Bb C GK h B N M k t z i) : nr K Mk A Bb C GK h B N M k' t z i := ⟨w.1, fun q => by
  obtain ⟨a1, a2, a3, j, b1, b2, b3, b4, b5, b6⟩ := w.2.1 q
  exact ⟨a1, a2, a3, j, b1, b2, b3, b4, by omega, b6⟩, w.2.2⟩
/-- the class's cells of the PROGRAM and of the scope are as they were -/
theorem po_cg {hC' hM' : Nat → Nat → Int32} {gC' gM' : Nat → Nat → Int64} {k' : Nat} (P : po hC gC hM gM B N M rd k o n t w G) (a : ∀ c, c ≠ 1 → c ≠ 32 → hC' c = hC c) (a2 : ∀ x, hC' 32 x = hC 32 x) (b : ∀ c, c ≠ 1 → gC' c = gC c) (c1 : ∀ c, c ≠ 73 → hM' c = hM c) (c2 : ∀ x, x ≠ 6 → x ≠ 33 → hM' 73 x = hM 73 x) (d : gM' = gM) (hk : at_C hC' gC' B N (tp B N k') ∧ tok B N (tp B N k') ≠ 1 ∧ k' ≤ M) (h6 : hM' 73 6 = nI k') (hkk : k ≤ k') : po hC' gC' hM' gM' B N M rd k' o n t w G := by
  obtain ⟨p1, p2, p3, p4, p5, p6, p7⟩ := P
  subst d
  refine ⟨hk, ?_, ⟨h6, ?_, ?_, ?_, ?_⟩, ?_, ?_, ?_, p7⟩
  · rw [a2 1, a2 2, a2 3, a2 0]; exact p2
  · rw [c2 _ (by decide) (by decide)]; exact p3.2.1
  · rw [c2 _ (by decide) (by decide)]; exact p3.2.2.1
  · rw [c2 _ (by decide) (by decide)]; exact p3.2.2.2.1
  · rw [c2 _ (by decide) (by decide)]; exact p3.2.2.2.2
  · rw [a _ (by decide) (by decide), c1 _ (by decide), b _ (by decide)]; exact p4
  · rw [a 3 (by decide) (by decide), a 9 (by decide) (by decide), a 10 (by decide) (by decide), a 11 (by decide) (by decide), c1 86 (by decide), c1 92 (by decide), c1 93 (by decide), c1 94 (by decide)]; exact p5
  · have p6 := (⟨p6.1, fun i hi => nr_k hkk (p6.2 i hi)⟩ : _ ∧ ∀ i, i < n → nr (hC 12) (hC 13) (hC 14) (hC 15) (hC 16) (hC 9) hM B N M k' t (2900 * rd) i)
    unfold nr rp_N at p6 ⊢
    rw [a 3 (by decide) (by decide), a 12 (by decide) (by decide), a 13 (by decide) (by decide), a 14 (by decide) (by decide), a 15 (by decide) (by decide), a 16 (by decide) (by decide), a 9 (by decide) (by decide), c1 79 (by decide), c1 80 (by decide), c1 81 (by decide), c1 82 (by decide), c1 83 (by decide), c1 84 (by decide)]; exact p6
/-- FAULT of the class -/
def xfl (h : Nat → Nat → Int32) (f p : Int32) : Nat → Nat → Int32 := am_si (am_si (am_si h 32 1 f) 32 0 p) 1 1 257
theorem ea_pfail (d : Nat) {f : Int32} (h : hC 32 1 = 0) : am_call tb_P (d + 1) 175 [.ref 32, .int f] (pr_S, hC, gC) = some (none, (pr_S, xfl hC f (hC 1 2), gC)) := by
  rw [en_175, ht_175_0, ch_175_0]; (try simp +decide (disch := omega) only [ni_bF, nI_clamp, nI_add, pk_mul, dc_ltT, dc_ltF, dc_leT, dc_leF, dc_eqF, dc_neT, dn_eq, dn_ne, dn_lt, dn_ge, si_at, si_c, si_k, q_at_nI, q_put_nI, ne_eq, not_false_eq_true, not_true_eq_false, ↓reduceIte, v0_ltT, v0_ltF, v0_gtT, v0_gtF, v0_leT, v0_leF, v0_geT, v0_geF, v0_eqT, v0_eqF, v0_add, v0_dda, v0_mul, v0_lum, v0_sub, v0_bad, v0_cl, h]); rw [ht_175_1, ch_175_1]
  rfl
theorem ea_pfailB (d : Nat) {f : Int32} (h : hC 32 1 ≠ 0) (h2 : hC 1 1 = 257) : am_call tb_P (d + 1) 175 [.ref 32, .int f] (pr_S, hC, gC) = some (none, (pr_S, hC, gC)) := by
  rw [en_175, ht_175_0, ch_175_0, if_pos h, ht_175_1, ch_175_1]
  rw [si_id h2]
def xfm2 (h : Nat → Nat → Int32) (f p : Int32) : Nat → Nat → Int32 := am_si (am_si h 73 26 f) 73 27 p
theorem em_pfail (d : Nat) {f : Int32} (h : hM 73 26 = 0) (h6 : hM 73 6 = nI k) (hk : k < 2001) : am_call tb_P (d + 1) 26 [.ref 73, .int f] (pr_S, hM, gM) = some (none, (pr_S, xfm2 hM f (hM 76 k), gM)) := by
  rw [en_26, ht_26_0, ch_26_0]; (try simp +decide (disch := omega) only [ni_bF, nI_clamp, nI_add, pk_mul, dc_ltT, dc_ltF, dc_leT, dc_leF, dc_eqF, dc_neT, dn_eq, dn_ne, dn_lt, dn_ge, si_at, si_c, si_k, q_at_nI, q_put_nI, ne_eq, not_false_eq_true, not_true_eq_false, ↓reduceIte, v0_ltT, v0_ltF, v0_gtT, v0_gtF, v0_leT, v0_leF, v0_geT, v0_geF, v0_eqT, v0_eqF, v0_add, v0_dda, v0_mul, v0_lum, v0_sub, v0_bad, v0_cl, h, h6]); rw [ht_26_1, ch_26_1]
  rfl
theorem em_pfailB (d : Nat) {f : Int32} (h : hM 73 26 ≠ 0) : am_call tb_P (d + 1) 26 [.ref 73, .int f] (pr_S, hM, gM) = some (none, (pr_S, hM, gM)) := by
  rw [en_26, ht_26_0, ch_26_0, if_pos h, ht_26_1, ch_26_1]
/-- both fail -/
theorem ps_fl {f : Int32} (X : px h0 h1 g1 B N M rd) (P : ps_O h0 g0 h1 g1 B N M rd hC gC hM gM k o n t w G) (hf : f ≠ 0) : ps_B h0 g0 h1 g1 B N M rd (xfl hC f (hC 1 2)) gC (xfm2 hM f (hM 76 k)) gM k n w := by
  obtain ⟨F1, F2, p1, p2, p3, p4, p5, p6, p7⟩ := P
  refine ⟨pf_Cc F1 (fun c q1 q2 => by unfold xfl; rw [am_si_ne q1, am_si_ne q2, am_si_ne q2]) (by unfold xfl; rw [am_si_off (by decide), am_si_ne (by decide), am_si_ne (by decide)]) (fun _ _ => rfl), pf_Mo (by decide) (pf_Mo (by decide) F2), f, tp B N k, ?_, hf, ?_, ?_, ?_, p1.2.2, ?_, ?_, Or.inr ⟨?_, ?_⟩⟩
  · unfold xfl; rw [am_si_ne (by decide), am_si_off (by decide), am_si_at]
  · unfold xfl; rw [am_si_ne (by decide), am_si_at]; exact p1.1.1
  · exact am_si_at _ _ _ _
  · unfold xfm2; rw [am_si_off (by decide), am_si_off (by decide)]; exact p3.1
  · unfold xfm2; rw [am_si_off (by decide), am_si_off (by decide)]; exact p3.2.2.2.2
  · unfold xfm2; rw [am_si_off (by decide), am_si_off (by decide)]; exact p3.2.2.2.1
  · unfold xfm2; rw [am_si_off (by decide), am_si_at]
  · unfold xfm2; rw [am_si_at]; exact (px_t X F2 p1.2.2).2.1
/-- the class goes on to the next token, the reference too -/
theorem ps_adv (d : Nat) (X : px h0 h1 g1 B N M rd) (P : ps_O h0 g0 h1 g1 B N M rd hC gC hM gM k o n t w G) (h : tok B N (tp B N k) ≠ 0) : ∃ hC' gC', am_call tb_P (d + 5) 177 [.ref 32] (pr_S, hC, gC) = some (none, (pr_S, hC', gC')) ∧ (∀ c, c ≠ 1 → c ≠ 32 → hC' c = hC c) ∧ (ps_O h0 g0 h1 g1 B N M rd hC' gC' (am_si hM 73 6 (nI (k + 1))) gM (k + 1) o n t w G ∨ ps_B h0 g0 h1 g1 B N M rd hC' gC' (am_si hM 73 6 (nI (k + 1))) gM (k + 1) n w) := by
  obtain ⟨F1, F2, P⟩ := P
  have hk := px_lt X h
  have T := px_T X F1
  have f0 := P.2.1.1
  have nx := P.1.1.2.2.1
  have b := (te_g (B := B) (N := N) (s := tp B N k) tp_N).2.1
  obtain ⟨h2, g2, s1, s2, s3, s4, s5⟩ := ea_scan (hl := gC) (d + 1) T nx b
  change at_C h2 g2 B N (tp B N (k + 1)) at s5
  have q0 : h2 32 1 = 0 := by rw [s2 _ (by decide)]; exact f0
  by_cases c : tok B N (tp B N (k + 1)) = 1
  · have t1 : h2 1 1 = 257 := by rw [s5.2.1, c]; rfl
    refine ⟨xfl h2 1 (h2 1 2), g2, ?_, fun c q1 q2 => ?_, Or.inr ⟨pf_Cc F1 (fun c q1 q2 => ?_) ?_ s4, pf_Mo (by decide) F2, 1, tp B N (k + 1), ?_, by decide, ?_, ?_, am_si_at _ _ _ _, by omega, ?_, ?_, Or.inl ⟨?_, rfl, rfl, c⟩⟩⟩
    · have rb : am_call tb_P (d + 4) 176 [.ref 32] (pr_S, h2, g2) = some (none, (pr_S, xfl h2 1 (h2 1 2), g2)) := by
        rw [en_176, ht_176_0, ch_176_0]; (try simp +decide (disch := omega) only [ni_bF, nI_clamp, nI_add, pk_mul, dc_ltT, dc_ltF, dc_leT, dc_leF, dc_eqF, dc_neT, dn_eq, dn_ne, dn_lt, dn_ge, si_at, si_c, si_k, q_at_nI, q_put_nI, ne_eq, not_false_eq_true, not_true_eq_false, ↓reduceIte, v0_ltT, v0_ltF, v0_gtT, v0_gtF, v0_leT, v0_leF, v0_geT, v0_geF, v0_eqT, v0_eqF, v0_add, v0_dda, v0_mul, v0_lum, v0_sub, v0_bad, v0_cl, v257_ltT, v257_ltF, v257_gtT, v257_gtF, v257_leT, v257_leF, v257_geT, v257_geF, v257_eqT, v257_eqF, v257_add, v257_dda, v257_mul, v257_lum, v257_sub, v257_bad, v257_cl, t1]); rw [ea_pfail _ q0, ev_rn, ch_176_2, ht_176_1, ch_176_1]
      rw [en_177, ht_177_0, ch_177_0]; (try simp +decide (disch := omega) only [ni_bF, nI_clamp, nI_add, pk_mul, dc_ltT, dc_ltF, dc_leT, dc_leF, dc_eqF, dc_neT, dn_eq, dn_ne, dn_lt, dn_ge, si_at, si_c, si_k, q_at_nI, q_put_nI, ne_eq, not_false_eq_true, not_true_eq_false, ↓reduceIte, v0_ltT, v0_ltF, v0_gtT, v0_gtF, v0_leT, v0_leF, v0_geT, v0_geF, v0_eqT, v0_eqF, v0_add, v0_dda, v0_mul, v0_lum, v0_sub, v0_bad, v0_cl, f0]); rw [s1, ev_rn, ch_177_2, rb, ev_rn, ch_177_3, ht_177_1, ch_177_1]
    · unfold xfl; rw [am_si_ne q1, am_si_ne q2, am_si_ne q2, s2 c q1]
    · unfold xfl; rw [am_si_ne q1, am_si_ne q2, am_si_ne q2, s2 c q1]
    · unfold xfl; rw [am_si_off (by decide), am_si_ne (by decide), am_si_ne (by decide), s3]
    · unfold xfl; rw [am_si_ne (by decide), am_si_off (by decide), am_si_at]
    · unfold xfl; rw [am_si_ne (by decide), am_si_at]; exact s5.1
    · exact am_si_at _ _ _ _
    · rw [am_si_off (by decide)]; exact P.2.2.1.2.2.2.2
    · rw [am_si_off (by decide)]; exact P.2.2.1.2.2.2.1
    · rw [am_si_off (by decide)]; exact P.2.2.1.2.1
  · have t1 : h2 1 1 ≠ 257 := by rw [s5.2.1]; exact fun q => c ((cl_e (b := 1) (tok_l X _) (by decide)).mp q)
    refine ⟨h2, g2, ?_, fun c q1 _ => s2 c q1, Or.inl ⟨pf_Cc F1 (fun c q1 _ => s2 c q1) s3 s4, pf_Mo (by decide) F2, po_cg P (fun c q1 _ => s2 c q1) (fun x => by rw [s2 _ (by decide)]) s4 (fun c hc => am_si_ne hc) (fun x a1 _ => am_si_off (by omega)) rfl ⟨s5, c, by omega⟩ (am_si_at _ _ _ _) (by omega)⟩⟩
    have rb : am_call tb_P (d + 4) 176 [.ref 32] (pr_S, h2, g2) = some (none, (pr_S, h2, g2)) := by
      rw [en_176, ht_176_0, ch_176_0, if_pos t1, ht_176_1, ch_176_1]
    rw [en_177, ht_177_0, ch_177_0]; (try simp +decide (disch := omega) only [ni_bF, nI_clamp, nI_add, pk_mul, dc_ltT, dc_ltF, dc_leT, dc_leF, dc_eqF, dc_neT, dn_eq, dn_ne, dn_lt, dn_ge, si_at, si_c, si_k, q_at_nI, q_put_nI, ne_eq, not_false_eq_true, not_true_eq_false, ↓reduceIte, v0_ltT, v0_ltF, v0_gtT, v0_gtF, v0_leT, v0_leF, v0_geT, v0_geF, v0_eqT, v0_eqF, v0_add, v0_dda, v0_mul, v0_lum, v0_sub, v0_bad, v0_cl, f0]); rw [s1, ev_rn, ch_177_2, rb, ev_rn, ch_177_3, ht_177_1, ch_177_1]
theorem ea_advB (d : Nat) (h : hC 32 1 ≠ 0) : am_call tb_P (d + 1) 177 [.ref 32] (pr_S, hC, gC) = some (none, (pr_S, hC, gC)) := by
  rw [en_177, ht_177_0, ch_177_0, if_pos h, ht_177_1, ch_177_1]
/-- is, odd -/
theorem em_isT (d : Nat) {v : Int32} (h : hM 73 26 = 0) (h6 : hM 73 6 = nI k) (hk : k < 2001) (e : hM 75 k = v) : am_call tb_P (d + 1) 27 [.ref 73, .int v] (pr_S, hM, gM) = some (some (.int 1), (pr_S, hM, gM)) := by
  rw [en_27, ht_27_0, ch_27_0]; (try simp +decide (disch := omega) only [ni_bF, nI_clamp, nI_add, pk_mul, dc_ltT, dc_ltF, dc_leT, dc_leF, dc_eqF, dc_neT, dn_eq, dn_ne, dn_lt, dn_ge, si_at, si_c, si_k, q_at_nI, q_put_nI, ne_eq, not_false_eq_true, not_true_eq_false, ↓reduceIte, v0_ltT, v0_ltF, v0_gtT, v0_gtF, v0_leT, v0_leF, v0_geT, v0_geF, v0_eqT, v0_eqF, v0_add, v0_dda, v0_mul, v0_lum, v0_sub, v0_bad, v0_cl, h, h6, e]); rw [sk_27_1_25, ht_27_2, ch_27_2]; try simp +decide (disch := omega) only [ni_bF, nI_clamp, nI_add, pk_mul, dc_ltT, dc_ltF, dc_leT, dc_leF, dc_eqF, dc_neT, dn_eq, dn_ne, dn_lt, dn_ge, si_at, si_c, si_k, q_at_nI, q_put_nI, ne_eq, not_false_eq_true, not_true_eq_false, ↓reduceIte, v0_ltT, v0_ltF, v0_gtT, v0_gtF, v0_leT, v0_leF, v0_geT, v0_geF, v0_eqT, v0_eqF, v0_add, v0_dda, v0_mul, v0_lum, v0_sub, v0_bad, v0_cl, v1_ltT, v1_ltF, v1_gtT, v1_gtF, v1_leT, v1_leF, v1_geT, v1_geF, v1_eqT, v1_eqF, v1_add, v1_dda, v1_mul, v1_lum, v1_sub, v1_bad, v1_cl, h, h6, e]
theorem em_isF (d : Nat) {v : Int32} (h6 : hM 73 6 = nI k) (hk : k < 2001) (e : hM 73 26 = 0 → hM 75 k ≠ v) : am_call tb_P (d + 1) 27 [.ref 73, .int v] (pr_S, hM, gM) = some (some (.int 0), (pr_S, hM, gM)) := by
  by_cases c : hM 73 26 = 0
  · rw [en_27, ht_27_0, ch_27_0]; (try simp +decide (disch := omega) only [ni_bF, nI_clamp, nI_add, pk_mul, dc_ltT, dc_ltF, dc_leT, dc_leF, dc_eqF, dc_neT, dn_eq, dn_ne, dn_lt, dn_ge, si_at, si_c, si_k, q_at_nI, q_put_nI, ne_eq, not_false_eq_true, not_true_eq_false, ↓reduceIte, v0_ltT, v0_ltF, v0_gtT, v0_gtF, v0_leT, v0_leF, v0_geT, v0_geF, v0_eqT, v0_eqF, v0_add, v0_dda, v0_mul, v0_lum, v0_sub, v0_bad, v0_cl, c, h6]); rw [if_pos (e c), ht_27_1, ch_27_1, ht_27_2, ch_27_2]; try simp +decide (disch := omega) only [ni_bF, nI_clamp, nI_add, pk_mul, dc_ltT, dc_ltF, dc_leT, dc_leF, dc_eqF, dc_neT, dn_eq, dn_ne, dn_lt, dn_ge, si_at, si_c, si_k, q_at_nI, q_put_nI, ne_eq, not_false_eq_true, not_true_eq_false, ↓reduceIte, v0_ltT, v0_ltF, v0_gtT, v0_gtF, v0_leT, v0_leF, v0_geT, v0_geF, v0_eqT, v0_eqF, v0_add, v0_dda, v0_mul, v0_lum, v0_sub, v0_bad, v0_cl, v1_ltT, v1_ltF, v1_gtT, v1_gtF, v1_leT, v1_leF, v1_geT, v1_geF, v1_eqT, v1_eqF, v1_add, v1_dda, v1_mul, v1_lum, v1_sub, v1_bad, v1_cl, c, h6]
  · rw [en_27, ht_27_0, ch_27_0]; (try simp +decide (disch := omega) only [ni_bF, nI_clamp, nI_add, pk_mul, dc_ltT, dc_ltF, dc_leT, dc_leF, dc_eqF, dc_neT, dn_eq, dn_ne, dn_lt, dn_ge, si_at, si_c, si_k, q_at_nI, q_put_nI, ne_eq, not_false_eq_true, not_true_eq_false, ↓reduceIte, v0_ltT, v0_ltF, v0_gtT, v0_gtF, v0_leT, v0_leF, v0_geT, v0_geF, v0_eqT, v0_eqF, v0_add, v0_dda, v0_mul, v0_lum, v0_sub, v0_bad, v0_cl]); rw [if_pos c, ht_27_1, ch_27_1, ht_27_2, ch_27_2]; try simp +decide (disch := omega) only [ni_bF, nI_clamp, nI_add, pk_mul, dc_ltT, dc_ltF, dc_leT, dc_leF, dc_eqF, dc_neT, dn_eq, dn_ne, dn_lt, dn_ge, si_at, si_c, si_k, q_at_nI, q_put_nI, ne_eq, not_false_eq_true, not_true_eq_false, ↓reduceIte, v0_ltT, v0_ltF, v0_gtT, v0_gtF, v0_leT, v0_leF, v0_geT, v0_geF, v0_eqT, v0_eqF, v0_add, v0_dda, v0_mul, v0_lum, v0_sub, v0_bad, v0_cl, v1_ltT, v1_ltF, v1_gtT, v1_gtF, v1_leT, v1_leF, v1_geT, v1_geF, v1_eqT, v1_eqF, v1_add, v1_dda, v1_mul, v1_lum, v1_sub, v1_bad, v1_cl]
theorem em_odd (d : Nat) (h : hM 73 26 = 0) (h6 : hM 73 6 = nI k) (hk : k < 2001) (e : hM 75 k ≠ 1) : am_call tb_P (d + 2) 28 [.ref 73] (pr_S, hM, gM) = some (none, (pr_S, xfm2 hM 2 (hM 76 k), gM)) := by
  rw [en_28, ht_28_0, ch_28_0]; (try simp +decide (disch := omega) only [ni_bF, nI_clamp, nI_add, pk_mul, dc_ltT, dc_ltF, dc_leT, dc_leF, dc_eqF, dc_neT, dn_eq, dn_ne, dn_lt, dn_ge, si_at, si_c, si_k, q_at_nI, q_put_nI, ne_eq, not_false_eq_true, not_true_eq_false, ↓reduceIte, v0_ltT, v0_ltF, v0_gtT, v0_gtF, v0_leT, v0_leF, v0_geT, v0_geF, v0_eqT, v0_eqF, v0_add, v0_dda, v0_mul, v0_lum, v0_sub, v0_bad, v0_cl, v1_ltT, v1_ltF, v1_gtT, v1_gtF, v1_leT, v1_leF, v1_geT, v1_geF, v1_eqT, v1_eqF, v1_add, v1_dda, v1_mul, v1_lum, v1_sub, v1_bad, v1_cl, h6]); rw [if_pos e, ht_28_1, ch_28_1, ht_28_2, ch_28_2, em_pfail _ h h6 hk, ev_rn, ch_28_3]
/-- odd where the class has failed already -/
theorem ps_oddB (d : Nat) (X : px h0 h1 g1 B N M rd) (P : ps_B h0 g0 h1 g1 B N M rd hC gC hM gM k n w) : ∃ hM', am_call tb_P (d + 2) 28 [.ref 73] (pr_S, hM, gM) = some (none, (pr_S, hM', gM)) ∧ ps_B h0 g0 h1 g1 B N M rd hC gC hM' gM k n w ∧ hM' 73 26 ≠ 0 := by
  obtain ⟨F1, F2, f, p, a1, a2, a3, a4, a5, a6, a7, a8, a9⟩ := P
  have hk : k < 2001 := by have := X.2.2.2.1; omega
  obtain ⟨t1, t2, _⟩ := px_t X F2 a6
  rcases a9 with ⟨b1, b2, b3, b4⟩ | ⟨b1, b2⟩
  · rw [b4] at t1
    have t1' : hM 75 k = 1 := t1
    refine ⟨xfm2 hM 1 (hM 76 k), ?_, ⟨F1, pf_Mo (by decide) (pf_Mo (by decide) F2), f, p, a1, a2, a3, a4, ?_, a6, ?_, ?_, Or.inr ⟨?_, ?_⟩⟩, ?_⟩
    · rw [en_28, ht_28_0, ch_28_0]; (try simp +decide (disch := omega) only [ni_bF, nI_clamp, nI_add, pk_mul, dc_ltT, dc_ltF, dc_leT, dc_leF, dc_eqF, dc_neT, dn_eq, dn_ne, dn_lt, dn_ge, si_at, si_c, si_k, q_at_nI, q_put_nI, ne_eq, not_false_eq_true, not_true_eq_false, ↓reduceIte, v0_ltT, v0_ltF, v0_gtT, v0_gtF, v0_leT, v0_leF, v0_geT, v0_geF, v0_eqT, v0_eqF, v0_add, v0_dda, v0_mul, v0_lum, v0_sub, v0_bad, v0_cl, v1_ltT, v1_ltF, v1_gtT, v1_gtF, v1_leT, v1_leF, v1_geT, v1_geF, v1_eqT, v1_eqF, v1_add, v1_dda, v1_mul, v1_lum, v1_sub, v1_bad, v1_cl, a5, t1']); rw [sk_28_1_19, ht_28_2, ch_28_2, em_pfail _ b1 a5 hk, ev_rn, ch_28_3]
    · unfold xfm2; rw [am_si_off (by decide), am_si_off (by decide)]; exact a5
    · unfold xfm2; rw [am_si_off (by decide), am_si_off (by decide)]; exact a7
    · unfold xfm2; rw [am_si_off (by decide), am_si_off (by decide)]; exact a8
    · unfold xfm2; rw [am_si_off (by decide), am_si_at, b2]
    · unfold xfm2; rw [am_si_at, t2, b3]
    · unfold xfm2; rw [am_si_off (by decide), am_si_at]; decide
  · have nf : hM 73 26 ≠ 0 := by rw [b1]; exact a2
    refine ⟨hM, ?_, ⟨F1, F2, f, p, a1, a2, a3, a4, a5, a6, a7, a8, Or.inr ⟨b1, b2⟩⟩, nf⟩
    by_cases c : hM 75 k = 1
    · rw [en_28, ht_28_0, ch_28_0]; (try simp +decide (disch := omega) only [ni_bF, nI_clamp, nI_add, pk_mul, dc_ltT, dc_ltF, dc_leT, dc_leF, dc_eqF, dc_neT, dn_eq, dn_ne, dn_lt, dn_ge, si_at, si_c, si_k, q_at_nI, q_put_nI, ne_eq, not_false_eq_true, not_true_eq_false, ↓reduceIte, v0_ltT, v0_ltF, v0_gtT, v0_gtF, v0_leT, v0_leF, v0_geT, v0_geF, v0_eqT, v0_eqF, v0_add, v0_dda, v0_mul, v0_lum, v0_sub, v0_bad, v0_cl, v1_ltT, v1_ltF, v1_gtT, v1_gtF, v1_leT, v1_leF, v1_geT, v1_geF, v1_eqT, v1_eqF, v1_add, v1_dda, v1_mul, v1_lum, v1_sub, v1_bad, v1_cl, a5, c]); rw [sk_28_1_19, ht_28_2, ch_28_2, em_pfailB _ nf, ev_rn, ch_28_3]
    · rw [en_28, ht_28_0, ch_28_0]; (try simp +decide (disch := omega) only [ni_bF, nI_clamp, nI_add, pk_mul, dc_ltT, dc_ltF, dc_leT, dc_leF, dc_eqF, dc_neT, dn_eq, dn_ne, dn_lt, dn_ge, si_at, si_c, si_k, q_at_nI, q_put_nI, ne_eq, not_false_eq_true, not_true_eq_false, ↓reduceIte, v0_ltT, v0_ltF, v0_gtT, v0_gtF, v0_leT, v0_leF, v0_geT, v0_geF, v0_eqT, v0_eqF, v0_add, v0_dda, v0_mul, v0_lum, v0_sub, v0_bad, v0_cl, v1_ltT, v1_ltF, v1_gtT, v1_gtF, v1_leT, v1_leF, v1_geT, v1_geF, v1_eqT, v1_eqF, v1_add, v1_dda, v1_mul, v1_lum, v1_sub, v1_bad, v1_cl, a5]); rw [if_pos c, ht_28_1, ch_28_1, ht_28_2, ch_28_2, em_pfailB _ nf, ev_rn, ch_28_3]
theorem ps_isB (d : Nat) {τ : Nat} (X : px h0 h1 g1 B N M rd) (P : ps_B h0 g0 h1 g1 B N M rd hC gC hM gM k n w) (hτ : τ < 256) (h1' : τ ≠ 1) : am_call tb_P (d + 1) 27 [.ref 73, .int (nI τ)] (pr_S, hM, gM) = some (some (.int 0), (pr_S, hM, gM)) := by
  obtain ⟨F1, F2, f, p, a1, a2, a3, a4, a5, a6, a7, a8, a9⟩ := P
  have hk : k < 2001 := by have := X.2.2.2.1; omega
  refine em_isF d a5 hk (fun q => ?_)
  rcases a9 with ⟨b1, b2, b3, b4⟩ | ⟨b1, b2⟩
  · rw [(px_t X F2 a6).1, b4]
    exact fun q => h1' ((nI_eq (by omega) (by omega)).mp q).symm
  · exact absurd (b1.symm.trans q) a2
/-- expect and take -/
theorem ps_exp (d : Nat) {τ : Nat} (X : px h0 h1 g1 B N M rd) (P : ps_O h0 g0 h1 g1 B N M rd hC gC hM gM k o n t w G) (hτ : τ < 256) (h0' : τ ≠ 0) : ∃ hC' gC' hM', am_call tb_P (d + 6) 178 [.ref 32, .int (cl τ)] (pr_S, hC, gC) = some (none, (pr_S, hC', gC')) ∧ am_call tb_P (d + 6) 29 [.ref 73, .int (nI τ)] (pr_S, hM, gM) = some (none, (pr_S, hM', gM)) ∧ (∀ c, c ≠ 1 → c ≠ 32 → hC' c = hC c) ∧ ((tok B N (tp B N k) = τ ∧ (ps_O h0 g0 h1 g1 B N M rd hC' gC' hM' gM (k + 1) o n t w G ∨ ps_B h0 g0 h1 g1 B N M rd hC' gC' hM' gM (k + 1) n w)) ∨ ps_B h0 g0 h1 g1 B N M rd hC' gC' hM' gM k n w) := by
  obtain ⟨F1, F2, P'⟩ := id P
  have hk : k < 2001 := by have := X.2.2.2.1; have := P'.1.2.2; omega
  have tk := (px_t X F2 P'.1.2.2).1
  by_cases c : tok B N (tp B N k) = τ
  · obtain ⟨hC', gC', s1, s2, s3⟩ := ps_adv d X P (by rw [c]; exact h0')
    have tc : hC 1 1 = cl τ := by rw [P'.1.1.2.1, c]
    refine ⟨hC', gC', am_si hM 73 6 (nI (k + 1)), ?_, ?_, s2, Or.inl ⟨c, s3⟩⟩
    · rw [en_178, ht_178_0, ch_178_0, if_neg (fun q => q tc), s1, ev_rn, ch_178_2, sk_178_1_23, ht_178_2, ch_178_4]
    · have i := em_isT (gM := gM) (d + 4) P'.2.2.1.2.1 P'.2.2.1.1 hk (tk.trans (by rw [c]))
      have e6 := P'.2.2.1.1
      rw [en_29, ht_29_0, ch_29_0, i, ev_rs, ch_29_1]; (try simp +decide (disch := omega) only [ni_bF, nI_clamp, nI_add, pk_mul, dc_ltT, dc_ltF, dc_leT, dc_leF, dc_eqF, dc_neT, dn_eq, dn_ne, dn_lt, dn_ge, si_at, si_c, si_k, q_at_nI, q_put_nI, ne_eq, not_false_eq_true, not_true_eq_false, ↓reduceIte, v0_ltT, v0_ltF, v0_gtT, v0_gtF, v0_leT, v0_leF, v0_geT, v0_geF, v0_eqT, v0_eqF, v0_add, v0_dda, v0_mul, v0_lum, v0_sub, v0_bad, v0_cl, v1_ltT, v1_ltF, v1_gtT, v1_gtF, v1_leT, v1_leF, v1_geT, v1_geF, v1_eqT, v1_eqF, v1_add, v1_dda, v1_mul, v1_lum, v1_sub, v1_bad, v1_cl, e6]); rw [sk_29_1_25, ht_29_2, ch_29_3]
  · have tc : hC 1 1 ≠ cl τ := by rw [P'.1.1.2.1]; exact fun q => c ((cl_e (tok_l X _) hτ).mp q)
    refine ⟨xfl hC 2 (hC 1 2), gC, xfm2 hM 2 (hM 76 k), ?_, ?_, fun c q1 q2 => by unfold xfl; rw [am_si_ne q1, am_si_ne q2, am_si_ne q2], Or.inr (ps_fl X P (by decide))⟩
    · rw [en_178, ht_178_0, ch_178_0, if_pos tc, ht_178_1, ch_178_1, ea_pfail _ P'.2.1.1, ev_rn, ch_178_3, ht_178_2, ch_178_4]
    · have i := em_isF (gM := gM) (v := nI τ) (d + 4) P'.2.2.1.1 hk (fun _ => by rw [tk]; exact fun q => c ((nI_eq (by have := tok_l X (tp B N k); omega) (by omega)).mp q))
      have o := em_odd (gM := gM) (d + 3) P'.2.2.1.2.1 P'.2.2.1.1 hk (by rw [tk]; exact fun q => P'.1.2.1 ((nI_eq (b := 1) (by have := tok_l X (tp B N k); omega) (by decide)).mp q))
      rw [en_29, ht_29_0, ch_29_0, i, ev_rs, ch_29_1, if_pos rfl, ht_29_1, ch_29_2, o, ev_rn, ch_29_4, ht_29_2, ch_29_3]
theorem ea_expB (d : Nat) {v : Int32} (hv : v ≠ 257) (h : hC 32 1 ≠ 0) (h2 : hC 1 1 = 257) : am_call tb_P (d + 2) 178 [.ref 32, .int v] (pr_S, hC, gC) = some (none, (pr_S, hC, gC)) := by
  rw [en_178, ht_178_0, ch_178_0]; (try simp +decide (disch := omega) only [ni_bF, nI_clamp, nI_add, pk_mul, dc_ltT, dc_ltF, dc_leT, dc_leF, dc_eqF, dc_neT, dn_eq, dn_ne, dn_lt, dn_ge, si_at, si_c, si_k, q_at_nI, q_put_nI, ne_eq, not_false_eq_true, not_true_eq_false, ↓reduceIte, v0_ltT, v0_ltF, v0_gtT, v0_gtF, v0_leT, v0_leF, v0_geT, v0_geF, v0_eqT, v0_eqF, v0_add, v0_dda, v0_mul, v0_lum, v0_sub, v0_bad, v0_cl, h2]); rw [if_pos (fun q => hv q.symm), ht_178_1, ch_178_1, ea_pfailB _ h h2, ev_rn, ch_178_3, ht_178_2, ch_178_4]
theorem ps_expB (d : Nat) {τ : Nat} (X : px h0 h1 g1 B N M rd) (P : ps_B h0 g0 h1 g1 B N M rd hC gC hM gM k n w) (hτ : τ < 256) (h1' : τ ≠ 1) : ∃ hM', am_call tb_P (d + 6) 178 [.ref 32, .int (cl τ)] (pr_S, hC, gC) = some (none, (pr_S, hC, gC)) ∧ am_call tb_P (d + 6) 29 [.ref 73, .int (nI τ)] (pr_S, hM, gM) = some (none, (pr_S, hM', gM)) ∧ ps_B h0 g0 h1 g1 B N M rd hC gC hM' gM k n w := by
  obtain ⟨hM', o1, o2, _⟩ := ps_oddB (d + 3) X P
  have i := ps_isB (d + 4) X P hτ h1'
  obtain ⟨F1, F2, f, p, a1, a2, a3, a4, _⟩ := P
  refine ⟨hM', ea_expB (d + 4) (fun q => h1' ((cl_e hτ (by decide)).mp q)) (by rw [a1]; exact a2) a4, ?_, o2⟩
  rw [en_29, ht_29_0, ch_29_0, i, ev_rs, ch_29_1, if_pos rfl, ht_29_1, ch_29_2, o1, ev_rn, ch_29_4, ht_29_2, ch_29_3]
end OP
