/-! both parsers side by side: a state that is right with what is known of it, or doomed -/
def sx (h0 : Nat → Nat → Int32) (g0 : Nat → Nat → Int64) (h1 : Nat → Nat → Int32) (g1 : Nat → Nat → Int64) (B : Nat → Nat) (N M rd o w π : Nat) (Φ : Nat → Nat → Nat → List Nat → Prop) (hC : Nat → Nat → Int32) (gC : Nat → Nat → Int64) (hM : Nat → Nat → Int32) (gM : Nat → Nat → Int64) : Prop := (∃ k n t G, ps_O h0 g0 h1 g1 B N M rd hC gC hM gM k o n t w G ∧ 3 * (n + π) ≤ qk B N k ∧ Φ k n t G) ∨ ps_D h0 g0 h1 g1 B N M rd hC gC hM gM w π
/-- a node of the kinds let, if, split: what both rows hold -/
def nq (GK : Nat → Int32) (rd t : Nat) (kd m a b c wh a' b' c' : Int32) : Prop := a' = nI (2900 * rd) + a ∧ b' = nI (2900 * rd) + b ∧ ((kd = 5 ∧ wh = 4 ∧ c' = m ∧ ∃ x, m = nI x ∧ x < t ∧ GK x = 1) ∨ (kd = 6 ∧ wh = 6 ∧ c' = nI (2900 * rd) + c) ∨ (kd = 7 ∧ wh = 9 ∧ c' = m ∧ ∃ x, m = nI x ∧ x + 1 < t ∧ GK x = 2 ∧ GK (x + 1) = 2))
section SX
variable {h0 h1 hC hM : Nat → Nat → Int32} {g0 g1 gC gM : Nat → Nat → Int64} {B : Nat → Nat} {N M rd k o n t w π D e s : Nat} {G : List Nat} {Φ : Nat → Nat → Nat → List Nat → Prop}
theorem sx_imp {Ψ : Nat → Nat → Nat → List Nat → Prop} (S : sx h0 g0 h1 g1 B N M rd o w π Φ hC gC hM gM) (h : ∀ k n t G, ps_O h0 g0 h1 g1 B N M rd hC gC hM gM k o n t w G → Φ k n t G → Ψ k n t G) : sx h0 g0 h1 g1 B N M rd o w π Ψ hC gC hM gM := by
  rcases S with ⟨k, n, t, G, P, J, q⟩ | S
  · exact Or.inl ⟨k, n, t, G, P, J, h k n t G P q⟩
  · exact Or.inr S
theorem sx_32 (S : sx h0 g0 h1 g1 B N M rd o w π Φ hC gC hM gM) : hM 73 32 = nI w := by
  rcases S with ⟨k, n, t, G, x1, _⟩ | ⟨_, _, ⟨_, _, f, p, y1, y2, y3, y4, y5, y6, y7, y8, _⟩, _⟩
  · exact x1.2.2.2.2.1.2.2.2.1
  · exact y8
theorem sx_expc (d τ : Nat) (X : px h0 h1 g1 B N M rd) (hτ : τ < 256) (h4 : τ ≠ 0 ∧ τ ≠ 1 ∧ τ ≠ 2 ∧ τ ≠ 3 ∧ τ ≠ 41) (S : sx h0 g0 h1 g1 B N M rd o w π Φ hC gC hM gM) : ∃ (hC' : Nat → Nat → Int32) (gC' : Nat → Nat → Int64) (hM' : Nat → Nat → Int32), am_call tb_P (d + 6) 178 [.ref 32, .int (cl τ)] (pr_S, hC, gC) = some (none, (pr_S, hC', gC')) ∧ am_call tb_P (d + 6) 29 [.ref 73, .int (nI τ)] (pr_S, hM, gM) = some (none, (pr_S, hM', gM)) ∧ (∀ c, c ≠ 1 → c ≠ 32 → hC' c = hC c) ∧ hM' 73 33 = hM 73 33 ∧ sx h0 g0 h1 g1 B N M rd o w π (fun _ n t G => ∃ k, Φ k n t G) hC' gC' hM' gM := by
  rcases S with ⟨k, n, t, G, P, J, q⟩ | S
  · obtain ⟨hC', gC', hM', a1, a2, a3, a4, a5⟩ := st_expc (π := π) d τ X hτ h4 (Or.inl ⟨P, J⟩)
    refine ⟨hC', gC', hM', a1, a2, a3, a4, ?_⟩
    rcases a5 with ⟨x, y⟩ | x
    · exact Or.inl ⟨k + 1, n, t, G, x, y, k, q⟩
    · exact Or.inr x
  · obtain ⟨hC', gC', hM', a1, a2, a3, a4, a5⟩ := st_expc (k := 0) (o := 0) (n := 0) (t := 0) (G := []) (π := π) d τ X hτ h4 (Or.inr S)
    refine ⟨hC', gC', hM', a1, a2, a3, a4, ?_⟩
    rcases a5 with ⟨x, y⟩ | x
    · exact absurd (po_1 x) (ln_expect (d + 4) (fun q => h4.2.1 ((cl_e hτ (by decide)).mp q)) S a1)
    · exact Or.inr x
theorem sx_ex (X : px h0 h1 g1 B N M rd) (IH : o < 40 → exC h0 g0 h1 g1 B N M rd D (o + 1) (e + 10)) (S : sx h0 g0 h1 g1 B N M rd (o + 1) w π Φ hC gC hM gM) : ∃ (rC rM : Int32) (hC' : Nat → Nat → Int32) (gC' : Nat → Nat → Int64) (hM' : Nat → Nat → Int32) (gM' : Nat → Nat → Int64), am_call tb_P (e + 10) 181 [.ref 32] (pr_S, hC, gC) = some (some (.int rC), (pr_S, hC', gC')) ∧ am_call tb_P (e + 10) 35 [.ref 73] (pr_S, hM, gM) = some (some (.int rM), (pr_S, hM', gM')) ∧ sx h0 g0 h1 g1 B N M rd (o + 1) w π (fun k' n' t' G => ∃ k n t, Φ k n t G ∧ n < n' ∧ t ≤ t' ∧ rC = nI (n' - 1) ∧ rM = nI (2900 * rd + (n' - 1)) ∧ wfx hC' (5 * (41 - (o + 1))) (40 - (o + 1)) (n' - 1) n t t' G ∧ gw hC hC' n t t' D ∧ ga B N k' ≠ 3) hC' gC' hM' gM' := by
  rcases S with ⟨k, n, t, G, P, J, q⟩ | ⟨k6, n6, P6, J6⟩
  · have ho : o + 1 ≤ 40 := P.2.2.2.2.2.2.2.2.1
    obtain ⟨rC, rM, hC', gC', hM', gM', u1, u2, u3⟩ := st_ex (π := π) X (IH (by omega)) (Or.inl ⟨P, J⟩)
    refine ⟨rC, rM, hC', gC', hM', gM', u1, u2, ?_⟩
    rcases u3 with ⟨k', n', t', x1, x2, x3, x4, x5, x6, x7, x8, x9⟩ | u3
    · exact Or.inl ⟨k', n', t', G, x1, x2, k, n, t, q, x3, x4, x5, x6, x7, x8, x9⟩
    · exact Or.inr u3
  · obtain ⟨c1, c2⟩ := cf_0 P6
    obtain ⟨hM', o1, o2⟩ := pb_exp (e + 2) X P6
    exact ⟨-1, 0, hC, gC, hM', gM, cf_exp (e + 4) c1 c2, o1, Or.inr ⟨k6, n6, o2, J6⟩⟩
theorem sx_exM (X : px h0 h1 g1 B N M rd) (IH : o < 40 → exC h0 g0 h1 g1 B N M rd D (o + 1) (e + 10)) (S : sx h0 g0 h1 g1 B N M rd (o + 1) w π Φ hC gC hM gM) : ∃ (rC rM : Int32) (hC' : Nat → Nat → Int32) (gC' : Nat → Nat → Int64) (hM' : Nat → Nat → Int32) (gM' : Nat → Nat → Int64), am_call tb_P (e + 10) 181 [.ref 32] (pr_S, hC, gC) = some (some (.int rC), (pr_S, hC', gC')) ∧ ((hM 73 26 = 0 ∧ am_call tb_P (e + 10) 35 [.ref 73] (pr_S, hM, gM) = some (some (.int rM), (pr_S, hM', gM'))) ∨ (hM 73 26 ≠ 0 ∧ rM = 0 ∧ hM' = hM ∧ gM' = gM)) ∧ sx h0 g0 h1 g1 B N M rd (o + 1) w π (fun k' n' t' G => ∃ k n t, Φ k n t G ∧ n < n' ∧ t ≤ t' ∧ rC = nI (n' - 1) ∧ rM = nI (2900 * rd + (n' - 1)) ∧ wfx hC' (5 * (41 - (o + 1))) (40 - (o + 1)) (n' - 1) n t t' G ∧ gw hC hC' n t t' D ∧ ga B N k' ≠ 3) hC' gC' hM' gM' := by
  by_cases z : hM 73 26 = 0
  · obtain ⟨rC, rM, hC', gC', hM', gM', u1, u2, u3⟩ := sx_ex X IH S
    exact ⟨rC, rM, hC', gC', hM', gM', u1, Or.inl ⟨z, u2⟩, u3⟩
  · rcases S with ⟨k, n, t, G, P, J, q⟩ | ⟨k6, n6, P6, J6⟩
    · exact absurd P.2.2.2.2.1.2.1 z
    · obtain ⟨c1, c2⟩ := cf_0 P6
      exact ⟨-1, 0, hC, gC, hM, gM, cf_exp (e + 4) c1 c2, Or.inr ⟨z, rfl, rfl, rfl⟩, Or.inr ⟨k6, n6, P6, J6⟩⟩
theorem sx_name (d : Nat) {kd : Int32} (X : px h0 h1 g1 B N M rd) (hD : h0 3 0 = nI (D + 1)) (hDm : h1 85 rd = nI D) (hkd : kd ≠ 0) (S : sx h0 g0 h1 g1 B N M rd o w π Φ hC gC hM gM) : ∃ (hC' : Nat → Nat → Int32) (gC' : Nat → Nat → Int64) (hM' : Nat → Nat → Int32) (rC : Int32) (v : Int64), am_call tb_P (d + 7) 187 [.ref 32, .int kd] (pr_S, hC, gC) = some (some (.int rC), (pr_S, hC', gC')) ∧ am_call tb_P (d + 7) 34 [.ref 73, .int kd, .long (Int64.ofNat 0)] (pr_S, hM, gM) = some (some (.long v), (pr_S, hM', gM)) ∧ sx h0 g0 h1 g1 B N M rd o w π (fun _ n t' G => ∃ k t, t' = t + 1 ∧ Φ k n t G ∧ rC = nI t ∧ hM' 73 33 = nI t ∧ v = gC 1 3 ∧ gw hC hC' n t (t + 1) D ∧ hC' 9 t = kd) hC' gC' hM' gM := by
  rcases S with ⟨k, n, t, G, P, J, q⟩ | S
  · obtain ⟨hC', gC', hM', rC, v, a1, a2, a3⟩ := st_name (kd := kd) (bar := Int64.ofNat 0) (π := π) d X hD hDm hkd (Or.inl ⟨P, J, fun z => by
      obtain ⟨z1, z2, z3⟩ := tok_n z
      rw [P.2.2.1.1.2.2.2.1 z1 z2]
      exact tok_nm X z⟩)
    refine ⟨hC', gC', hM', rC, v, a1, a2, ?_⟩
    rcases a3 with ⟨x1, x2, x3, x4, x5, x6, x7, x8⟩ | x
    · exact Or.inl ⟨k + 1, n, t + 1, G, x1, x2, k, t, rfl, q, x3, x4, x5, x7, x8⟩
    · exact Or.inr x
  · obtain ⟨hC', gC', hM', rC, v, a1, a2, a3⟩ := st_name (kd := kd) (bar := Int64.ofNat 0) (k := 0) (o := 0) (n := 0) (t := 0) (G := []) (π := π) d X hD hDm hkd (Or.inr S)
    refine ⟨hC', gC', hM', rC, v, a1, a2, ?_⟩
    rcases a3 with ⟨x, _⟩ | x
    · exact absurd (po_1 x) (ln_name (d + 5) S a1)
    · exact Or.inr x
theorem sx_know (d : Nat) {v v' : Int64} {rC rM : Int32} (hw : w < 190) (S : sx h0 g0 h1 g1 B N M rd o w π Φ hC gC hM gM) (q : ∀ k n t G, Φ k n t G → v' = v ∧ rM = rC ∧ ∃ x, rC = nI x ∧ x < t ∧ w + 1 ≤ 4 + 2 * o) : ∃ (hC' : Nat → Nat → Int32) (gC' : Nat → Nat → Int64) (hM' : Nat → Nat → Int32) (gM' : Nat → Nat → Int64), am_call tb_P (d + 1) 200 [.ref 32, .long v, .int rC] (pr_S, hC, gC) = some (none, (pr_S, hC', gC')) ∧ am_call tb_P (d + 1) 32 [.ref 73, .long v', .int rM] (pr_S, hM, gM) = some (none, (pr_S, hM', gM')) ∧ hM' 73 26 = hM 73 26 ∧ sx h0 g0 h1 g1 B N M rd o (w + 1) π (fun k n t G' => ∃ x G, G' = x :: G ∧ rC = nI x ∧ x < t ∧ Φ k n t G ∧ gw hC hC' n t t D) hC' gC' hM' gM' := by
  rcases S with ⟨k, n, t, G, P, J, z⟩ | S
  · obtain ⟨q1, q2, x, q3, q4, q5⟩ := q k n t G z
    obtain ⟨hC', gC', hM', gM', a1, a2, a3, a4⟩ := st_know (D := D) (π := π) (x := x) (v := v) (v' := v') (rC := rC) (rM := rM) d hw (Or.inl ⟨P, J, q1, q3, q2.trans q3, q4, q5⟩)
    refine ⟨hC', gC', hM', gM', a1, a2, a3, ?_⟩
    rcases a4 with ⟨x1, x2, x3⟩ | x4
    · exact Or.inl ⟨k, n, t, x :: G, x1, x2, x, G, rfl, q3, q4, z, x3⟩
    · exact Or.inr x4
  · obtain ⟨hC', gC', hM', gM', a1, a2, a3, a4⟩ := st_know (D := D) (k := 0) (o := 0) (n := 0) (t := 0) (G := []) (π := π) (x := 0) (v := v) (v' := v') (rC := rC) (rM := rM) d hw (Or.inr S)
    refine ⟨hC', gC', hM', gM', a1, a2, a3, ?_⟩
    rcases a4 with ⟨x1, _⟩ | x4
    · exact absurd (po_1 x1) (ln_bring d S a1)
    · exact Or.inr x4
theorem sx_leave (d : Nat) {j w0 : Nat} (hwj : w = w0 + j) (S : sx h0 g0 h1 g1 B N M rd (o + 1) w π Φ hC gC hM gM) (q : ∀ k n t G, Φ k n t G → ∃ Y G0, G = Y ++ G0 ∧ G0.length = w0 ∧ w0 ≤ 4 + 2 * o) : am_call tb_P (d + 1) 197 [.ref 32, .int (nI w0)] (pr_S, hC, gC) = some (none, (pr_S, am_si (am_si hC 32 2 (hC 32 2 - 1)) 32 3 (nI w0), gC)) ∧ sx h0 g0 h1 g1 B N M rd o w0 π (fun k n t G0 => ∃ Y, Φ k n t (Y ++ G0) ∧ G0.length = w0) (am_si (am_si hC 32 2 (hC 32 2 - 1)) 32 3 (nI w0)) gC (am_si (am_si hM 73 32 (nI w0)) 73 29 (hM 73 29 - 1)) gM := by
  subst hwj
  rcases S with ⟨k, n, t, G, P, J, z⟩ | S
  · obtain ⟨Y, G0, e, hl, hw⟩ := q k n t G z
    subst e
    obtain ⟨a1, a2⟩ := st_leave (π := π) d hl (Or.inl ⟨P, J, hw⟩)
    refine ⟨a1, ?_⟩
    rcases a2 with ⟨x, y⟩ | x
    · exact Or.inl ⟨k, n, t, G0, x, y, Y, z, hl⟩
    · exact Or.inr x
  · refine ⟨ea_leave d, Or.inr ?_⟩
    obtain ⟨k, n', P, J⟩ := S
    exact ⟨k, n', pb_cg P (fun c q => by rw [am_si_ne q, am_si_ne q]) (by rw [am_si_off (by decide), am_si_off (by decide)]) (by rw [am_si_off (by decide), am_si_off (by decide)]) (fun c q => by rw [am_si_ne q, am_si_ne q]) (fun x q1 _ q3 => by rw [am_si_off (by omega), am_si_off (by omega)]) (by rw [am_si_off (by decide), am_si_at]), J⟩
theorem sx_node (d : Nat) {kd m a b c wh a' b' c' : Int32} (X : px h0 h1 g1 B N M rd) (S : sx h0 g0 h1 g1 B N M rd o w (π + 1) Φ hC gC hM gM) (q : ∀ k n t G, Φ k n t G → nq (hC 9) rd t kd m a b c wh a' b' c') : ∃ (rC rM : Int32) (hC' hM' : Nat → Nat → Int32), (c = -1 → am_call tb_P (d + 2) 199 [.ref 32, .int kd, .int m, .int a, .int b] (pr_S, hC, gC) = some (some (.int rC), (pr_S, hC', gC))) ∧ ((hC 32 1 = 0 ∧ am_call tb_P (d + 2) 206 [.ref 3, .int kd, .int m, .int a, .int b, .int c] (pr_S, hC, gC) = some (some (.int rC), (pr_S, hC', gC))) ∨ (hC 32 1 ≠ 0 ∧ rC = -1 ∧ hC' = hC)) ∧ am_call tb_P (d + 2) 30 [.ref 73, .int wh, .int a', .int b', .int c'] (pr_S, hM, gM) = some (some (.int rM), (pr_S, hM', gM)) ∧ sx h0 g0 h1 g1 B N M rd o w π (fun k n' t G => ∃ n, n' = n + 1 ∧ Φ k n t G ∧ rC = nI n ∧ rM = nI (2900 * rd + n) ∧ hC' = xn hC n kd m a b c) hC' gC hM' gM := by
  have hN := X.2.2.2.2.2.2.2.2
  have hrd := X.2.2.2.2.2.2.1
  rcases S with ⟨k, n, t, G, P, J, z⟩ | ⟨k, n', P, J⟩
  · have qb := qk_N (B := B) (k := k) hN
    obtain ⟨F1, F2, P'⟩ := id P
    have xa := xn_at (hC := hC) (n := n) kd m a b c
    obtain ⟨y1, y2, y3, y4, y5⟩ := xnm_c (hM := hM) (n := n) (2900 * rd) (wh := wh) (a := a') (b := b') (c := c')
    obtain ⟨z1, z2, z3, z4, z5⟩ := xnm_at (hM := hM) (n := n) (2900 * rd) wh a' b' c'
    obtain ⟨q1, q2, q3⟩ := q k n t G z
    refine ⟨nI n, nI (2900 * rd + n), xn hC n kd m a b c, xnm hM (2900 * rd) n wh a' b' c', fun hc => by subst hc; exact ea_newNode _ P'.2.1.1 P'.2.2.2.2.2.1.1 (by omega), Or.inl ⟨P'.2.1.1, ea_addNode (d + 1) P'.2.2.2.2.2.1.1 (by omega)⟩, em_node (d + 1) (px_25 X F2) P'.2.2.1.2.2.2.2 hrd (by omega), Or.inl ⟨k, n + 1, t, G, po_node X P (by omega) y1 y2 y3 y4 y5 ?_, by omega, n, rfl, z, rfl, rfl, rfl⟩⟩
    unfold nr rp_N
    rw [xa.1, xa.2.1, xa.2.2.1, xa.2.2.2.1, xa.2.2.2.2]
    replace z2 := z2.trans q1
    replace z3 := z3.trans q2
    have no : ∀ {p : Prop} {a b : Int32}, a ≠ b → (a = b → p) := fun h q => absurd q h
    rcases q3 with ⟨rfl, rfl, rfl, x, q4, q5, q6⟩ | ⟨rfl, rfl, q4⟩ | ⟨rfl, rfl, rfl, x, q4, q5, q6, q7⟩
    · exact ⟨fun _ => ⟨⟨no (by decide), no (by decide), no (by decide), no (by decide), no (by decide), fun _ => ⟨z1, z2, z3, z4⟩, no (by decide), no (by decide), no (by decide), no (by decide)⟩, by rw [z1]; decide⟩, no (by decide), no (by decide), fun _ => ⟨x, q4, q5, q6⟩, no (by decide)⟩
    · replace z4 := z4.trans q4
      exact ⟨fun _ => ⟨⟨no (by decide), no (by decide), no (by decide), no (by decide), no (by decide), no (by decide), fun _ => ⟨z1, z2, z3, z4⟩, no (by decide), no (by decide), no (by decide)⟩, by rw [z1]; decide⟩, no (by decide), no (by decide), no (by decide), no (by decide)⟩
    · exact ⟨fun _ => ⟨⟨no (by decide), no (by decide), no (by decide), no (by decide), no (by decide), no (by decide), no (by decide), fun _ => ⟨z1, z2, z3, z4⟩, no (by decide), no (by decide)⟩, by rw [z1]; decide⟩, no (by decide), no (by decide), no (by decide), fun _ => ⟨x, q4, q5, q6, q7⟩⟩
  · have qb := qk_N (B := B) (k := k) hN
    obtain ⟨c1, c2⟩ := cf_0 P
    obtain ⟨F1, F2, f, p, b1, b2, b3, b4, b5, b6, b7, b8, b9⟩ := id P
    obtain ⟨y1, y2, y3, y4, y5⟩ := xnm_c (hM := hM) (n := n') (2900 * rd) (wh := wh) (a := a') (b := b') (c := c')
    exact ⟨-1, nI (2900 * rd + n'), hC, xnm hM (2900 * rd) n' wh a' b' c', fun _ => ea_newNodeB (d + 1) c1, Or.inr ⟨c1, rfl, rfl⟩, em_node (d + 1) (px_25 X F2) b7 hrd (by omega), Or.inr ⟨k, n' + 1, pb_node P y1 (by omega) y2 y4 y5, by omega⟩⟩
/-- the start of let, if, split -/
theorem sx_begin (X : px h0 h1 g1 B N M rd) (P : ps_O h0 g0 h1 g1 B N M rd hC gC hM gM k o n t w G) (J : 3 * (n + π) ≤ qk B N k) {τ : Nat} (c : tok B N (tp B N k) = τ) (h4 : τ ≠ 0 ∧ τ ≠ 2 ∧ τ ≠ 3 ∧ τ ≠ 41) : ∃ (hC1 hM1 hC' : Nat → Nat → Int32) (gC' : Nat → Nat → Int64) (hM' : Nat → Nat → Int32), am_call tb_P (e + 10) 196 [.ref 32] (pr_S, hC, gC) = some (none, (pr_S, hC1, gC)) ∧ am_call tb_P (e + 10) 33 [.ref 73] (pr_S, hM, gM) = some (none, (pr_S, hM1, gM)) ∧ am_call tb_P (e + 10) 177 [.ref 32] (pr_S, hC1, gC) = some (none, (pr_S, hC', gC')) ∧ hM1 73 6 = nI k ∧ ((hM1 73 26 = 0 ∧ hM' = am_si hM1 73 6 (nI (k + 1))) ∨ (hM1 73 26 ≠ 0 ∧ hM' = hM1)) ∧ sx h0 g0 h1 g1 B N M rd (o + 1) w (π + 1) (fun _ n' t' G' => n' = n ∧ t' = t ∧ G' = G ∧ gw hC hC' n t t D) hC' gC' hM' gM := by
  have q1 := qk_s (B := B) (N := N) (k := k) (by rw [c]; omega) (by rw [c]; omega) (by rw [c]; omega) (by rw [c]; omega)
  obtain ⟨hC1, hM1, a1, a2, a3, a4, a5⟩ := st_open (e + 8) X P
  rcases a5 with ⟨ho, P1⟩ | ⟨P1, z1⟩
  · obtain ⟨hC3, gC3, s1, s2, R3⟩ := ps_adv (e + 5) X P1 (by rw [c]; omega)
    refine ⟨hC1, hM1, hC3, gC3, _, a1, a2, s1, P1.2.2.2.2.1.1, Or.inl ⟨P1.2.2.2.2.1.2.1, rfl⟩, ?_⟩
    rcases R3 with R3 | R3
    · exact Or.inl ⟨k + 1, n, t, G, R3, by omega, rfl, rfl, rfl, gw_0 (fun c q1 q2 => by rw [s2 c q1 q2, a3 c q1 q2])⟩
    · exact Or.inr ⟨k + 1, n, R3, by omega⟩
  · obtain ⟨p1, p2⟩ := cf_0 P1
    obtain ⟨_, _, f, p, y1, y2, y3, y4, y5, y6, y7, y8, y9⟩ := id P1
    exact ⟨hC1, hM1, hC1, gC, hM1, a1, a2, ea_advB (e + 9) p1, y5, Or.inr ⟨z1, rfl⟩, Or.inr ⟨k, n, P1, by omega⟩⟩
end SX
