/-! both parsers side by side: one DEF -/
theorem si_out {h : Nat → Nat → Int32} {r i r2 j c : Nat} {v w : Int32} (hc : c ≠ r) : am_si (am_si h r i v) r2 j w c = am_si h r2 j w c := by
  by_cases e : c = r2
  · subst e
    funext x
    by_cases ex : x = j
    · subst ex; rw [am_si_at, am_si_at]
    · rw [am_si_off (by omega), am_si_ne hc, am_si_off (by omega)]
  · rw [am_si_ne e, am_si_ne e, am_si_ne hc]
/-- the DEFS read so far, in both -/
def dd (rd D n : Nat) (sz L bd st : Nat → Nat) (hC : Nat → Nat → Int32) (gC : Nat → Nat → Int64) (hM : Nat → Nat → Int32) (gM : Nat → Nat → Int64) : Prop :=
  L 0 = 0 ∧ ∀ e, e < D → gM 91 (24 * rd + e) = gC 4 e ∧ hM 87 (24 * rd + e) = hC 5 e ∧ hC 6 e = nI (sz e) ∧ sz e ≤ 4 ∧ hM 90 (24 * rd + e) = nI (sz e) ∧ hC 7 e = nI (L e) ∧ hM 89 (24 * rd + e) = nI (L e) ∧ hC 8 e = nI (bd e) ∧ hM 88 (24 * rd + e) = nI (2900 * rd + bd e) ∧ bd e < n ∧ L e + sz e ≤ L (e + 1) ∧ L (e + 1) ≤ L D ∧ (∃ f g, f ≤ 300 ∧ g ≤ 40 ∧ wfx hC f g (bd e) (st e) (L e + sz e) (L (e + 1)) (pg_G (L e) (sz e))) ∧ (∀ i, L e ≤ i → i < L (e + 1) → hC 10 i = nI e ∧ (hC 9 i = 0 ↔ i < L e + sz e))
/-- what the DEFS read so far are made of has not changed -/
def dq (n t D rd : Nat) (hC : Nat → Nat → Int32) (gC : Nat → Nat → Int64) (hM : Nat → Nat → Int32) (gM : Nat → Nat → Int64) (hC' : Nat → Nat → Int32) (gC' : Nat → Nat → Int64) (hM' : Nat → Nat → Int32) (gM' : Nat → Nat → Int64) : Prop :=
  (∀ c i, 5 ≤ c → c ≤ 8 → i < D → hC' c i = hC c i) ∧ (∀ i, i < D → gC' 4 i = gC 4 i) ∧ (∀ c i, 9 ≤ c → c ≤ 11 → i < t → hC' c i = hC c i) ∧ (∀ c i, 12 ≤ c → c ≤ 16 → i < n → hC' c i = hC c i) ∧ (∀ c i, 86 < c → c ≤ 90 → i < D → hM' c (24 * rd + i) = hM c (24 * rd + i)) ∧ (∀ i, i < D → gM' 91 (24 * rd + i) = gM 91 (24 * rd + i))
section DQ
variable {H0 H1 hC hM hC' hM' h2 h3 : Nat → Nat → Int32} {G0 G1 gC gM gC' gM' g2 g3 : Nat → Nat → Int64} {B : Nat → Nat} {N M rd k o n t w π D e s : Nat} {G : List Nat} {sz L bd st : Nat → Nat}
theorem dq_t {n' t' : Nat} (x : dq n t D rd hC gC hM gM hC' gC' hM' gM') (y : dq n' t' D rd hC' gC' hM' gM' h2 g2 h3 g3) (hn : n ≤ n') (ht : t ≤ t') : dq n t D rd hC gC hM gM h2 g2 h3 g3 := by
  obtain ⟨x1, x2, x3, x4, x5, x6⟩ := x
  obtain ⟨y1, y2, y3, y4, y5, y6⟩ := y
  exact ⟨fun c i a b d => (y1 c i a b d).trans (x1 c i a b d), fun i a => (y2 i a).trans (x2 i a), fun c i a b d => (y3 c i a b (by omega)).trans (x3 c i a b d), fun c i a b d => (y4 c i a b (by omega)).trans (x4 c i a b d), fun c i a b d => (y5 c i a b d).trans (x5 c i a b d), fun i a => (y6 i a).trans (x6 i a)⟩
theorem dq_pf (a : pf_C hC gC N hC' gC') (b : pf_M hM gM rd hM' gM') (g : ∀ c i, 9 ≤ c → c ≤ 11 → i < t → hC' c i = hC c i) (s : ∀ c i, 12 ≤ c → c ≤ 16 → i < n → hC' c i = hC c i) : dq n t D rd hC gC hM gM hC' gC' hM' gM' := ⟨fun c i q1 q2 _ => by rw [a.1 c (by omega) (by omega) (by omega) (by omega) (by omega)], fun i _ => by rw [a.2.2.2 4 (by decide) (by decide)], g, s, fun c i q1 q2 _ => by rw [b.1 c (by omega) (by omega) (by omega) (by omega) (by omega)], fun i _ => by rw [b.2.2.1 91 (by decide)]⟩
theorem dq_pw (w : pw n t D rd hC gC hM gM hC' gC' hM' gM') : dq n t D rd hC gC hM gM hC' gC' hM' gM' := ⟨fun c i q1 q2 _ => by rw [w.1 c (by omega) (by omega) (by omega) (by omega) (by omega)], fun i _ => by rw [w.2.2.2.2.1 4 (by decide) (by decide)], w.2.1, w.2.2.1, fun c i q1 q2 q3 => by
  by_cases e : c = 90
  · subst e; exact w.2.2.2.2.2.2.1 _ (by omega)
  · rw [w.2.2.2.2.2.1 c (by omega) (by omega) (by omega)], fun i _ => by rw [w.2.2.2.2.2.2.2]⟩
theorem dd_dq {n' : Nat} (d : dd rd D n sz L bd st hC gC hM gM) (q : dq n (L D) D rd hC gC hM gM hC' gC' hM' gM') (hn : n ≤ n') : dd rd D n' sz L bd st hC' gC' hM' gM' := by
  obtain ⟨q1, q2, q3, q4, q5, q6⟩ := q
  refine ⟨d.1, fun e he => ?_⟩
  obtain ⟨a1, a2, a3, a4, a5, a6, a7, a8, a9, b1, b2, b3, ⟨f, g, f1, f2, f3⟩, b5⟩ := d.2 e he
  refine ⟨?_, ?_, ?_, a4, ?_, ?_, ?_, ?_, ?_, by omega, b2, b3, ⟨f, g, f1, f2, wfx_cg f3 b1 q4⟩, fun i i1 i2 => ?_⟩
  · rw [q6 e he, q2 e he]; exact a1
  · rw [q5 _ e (by decide) (by decide) he, q1 _ e (by decide) (by decide) he]; exact a2
  · rw [q1 _ e (by decide) (by decide) he]; exact a3
  · rw [q5 _ e (by decide) (by decide) he]; exact a5
  · rw [q1 _ e (by decide) (by decide) he]; exact a6
  · rw [q5 _ e (by decide) (by decide) he]; exact a7
  · rw [q1 _ e (by decide) (by decide) he]; exact a8
  · rw [q5 _ e (by decide) (by decide) he]; exact a9
  · rw [q3 _ i (by decide) (by decide) (by omega), q3 _ i (by decide) (by decide) (by omega)]; exact b5 i i1 i2
theorem sx_ex0 {h0 h1 : Nat → Nat → Int32} {g0 g1 : Nat → Nat → Int64} {Φ : Nat → Nat → Nat → List Nat → Prop} (X : px h0 h1 g1 B N M rd) (IH : ∀ k n t G, Φ k n t G → exC h0 g0 h1 g1 B N M rd D o (e + 10)) (S : sx h0 g0 h1 g1 B N M rd o w π Φ hC gC hM gM) : ∃ (rC rM : Int32) (hC' : Nat → Nat → Int32) (gC' : Nat → Nat → Int64) (hM' : Nat → Nat → Int32) (gM' : Nat → Nat → Int64), am_call tb_P (e + 10) 181 [.ref 32] (pr_S, hC, gC) = some (some (.int rC), (pr_S, hC', gC')) ∧ am_call tb_P (e + 10) 35 [.ref 73] (pr_S, hM, gM) = some (some (.int rM), (pr_S, hM', gM')) ∧ sx h0 g0 h1 g1 B N M rd o w π (fun k' n' t' G => ∃ k n t, Φ k n t G ∧ n < n' ∧ t ≤ t' ∧ rC = nI (n' - 1) ∧ rM = nI (2900 * rd + (n' - 1)) ∧ wfx hC' (5 * (41 - o)) (40 - o) (n' - 1) n t t' G ∧ gw hC hC' n t t' D) hC' gC' hM' gM' := by
  rcases S with ⟨k, n, t, G, P, J, q⟩ | ⟨k6, n6, P6, J6⟩
  · obtain ⟨rC, rM, hC', gC', hM', gM', u1, u2, u3⟩ := st_ex (π := π) X (IH k n t G q) (Or.inl ⟨P, J⟩)
    refine ⟨rC, rM, hC', gC', hM', gM', u1, u2, ?_⟩
    rcases u3 with ⟨k', n', t', x1, x2, x3, x4, x5, x6, x7, x8, x9⟩ | u3
    · exact Or.inl ⟨k', n', t', G, x1, x2, k, n, t, q, x3, x4, x5, x6, x7, x8⟩
    · exact Or.inr u3
  · obtain ⟨c1, c2⟩ := cf_0 P6
    obtain ⟨hM', o1, o2⟩ := pb_exp (e + 2) X P6
    exact ⟨-1, 0, hC, gC, hM', gM, cf_exp (e + 4) c1 c2, o1, Or.inr ⟨k6, n6, o2, J6⟩⟩
end DQ
def df_R (H0 : Nat → Nat → Int32) (G0 : Nat → Nat → Int64) (H1 : Nat → Nat → Int32) (G1 : Nat → Nat → Int64) (B : Nat → Nat) (N M rd D k n t : Nat) (sz L bd st : Nat → Nat) (hC : Nat → Nat → Int32) (gC : Nat → Nat → Int64) (hM : Nat → Nat → Int32) (gM : Nat → Nat → Int64) : Prop :=
  fx H0 G0 H1 G1 N rd hC gC hM gM ∧ po hC gC (am_si hM 73 32 0) gM B N M rd k 0 n t 0 [] ∧ hC 3 0 = nI D ∧ hM 85 rd = nI D ∧ D ≤ 24 ∧ 3 * n ≤ qk B N k ∧ L D = t ∧ dd rd D n sz L bd st hC gC hM gM ∧ ∃ w0, hM 73 32 = nI w0
