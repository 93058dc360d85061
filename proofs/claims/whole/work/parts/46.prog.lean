/-! the PROGRAM, as both hold it -/
def pg_G (L : Nat) : Nat → List Nat
  | 0 => []
  | w + 1 => (L + w) :: pg_G L w
theorem pg_Gm {L : Nat} : ∀ {w t : Nat}, t ∈ pg_G L w ↔ L ≤ t ∧ t < L + w
  | 0, t => by
    unfold pg_G
    exact ⟨fun h => absurd h List.not_mem_nil, fun h => absurd h (by omega)⟩
  | w + 1, t => by
    unfold pg_G
    rw [List.mem_cons, pg_Gm]
    omega
def pg_I (hi : Nat → Nat → Int32) (nd nt nn hf : Nat) (sz L bd st : Nat → Nat) : Prop :=
  nd ≤ 24 ∧ nt ≤ 200 ∧ nn ≤ 2900 ∧ hf < 2 ∧ hi 17 0 = nI nd ∧ hi 17 1 = nI nt ∧ hi 73 7 = nI hf ∧ hi 85 hf = nI nd ∧ hi 86 hf = nI nt ∧ L 0 = 0 ∧ L nd = nt
  ∧ (∀ d, d < nd → hi 20 d = nI (sz d) ∧ sz d ≤ 4 ∧ hi 90 (24 * hf + d) = nI (sz d) ∧ hi 87 (24 * hf + d) = hi 19 d ∧ hi 21 d = nI (L d) ∧ hi 89 (24 * hf + d) = nI (L d) ∧ hi 22 d = nI (bd d) ∧ hi 88 (24 * hf + d) = nI (2900 * hf + bd d) ∧ bd d < nn ∧ L d + sz d ≤ L (d + 1) ∧ (∃ f g, f ≤ 300 ∧ g ≤ 40 ∧ wf_N (hi 26) (hi 27) (hi 28) (hi 29) (hi 30) nd 4000 f g (bd d) (st d) (L d + sz d) (L (d + 1)) (pg_G (L d) (sz d))) ∧ (∀ t, L d ≤ t → t < L (d + 1) → hi 24 t = nI d ∧ (hi 23 t = 0 ↔ t < L d + sz d)))
  ∧ (∀ t, t < nt → hi 92 (200 * hf + t) = hi 23 t ∧ hi 93 (200 * hf + t) = hi 24 t ∧ hi 94 (200 * hf + t) = hi 25 t)
  ∧ (∀ k, k < nn → rp_N (hi 26) (hi 27) (hi 28) (hi 29) (hi 30) hi (2900 * hf) k)
/-- the cells that it speaks of -/
def pg_c (c : Nat) : Prop := c = 17 ∨ (19 ≤ c ∧ c ≤ 30) ∨ (79 ≤ c ∧ c ≤ 83) ∨ (85 ≤ c ∧ c ≤ 90) ∨ (92 ≤ c ∧ c ≤ 94)
theorem pg_fr {hi hj : Nat → Nat → Int32} {nd nt nn hf : Nat} {sz L bd st : Nat → Nat} (o : ∀ c, pg_c c → hj c = hi c) (o7 : hj 73 7 = hi 73 7) (h : pg_I hi nd nt nn hf sz L bd st) : pg_I hj nd nt nn hf sz L bd st := by
  have a1 := o 17 (by unfold pg_c; omega)
  have a2 := o 19 (by unfold pg_c; omega)
  have a3 := o 20 (by unfold pg_c; omega)
  have a4 := o 21 (by unfold pg_c; omega)
  have a5 := o 22 (by unfold pg_c; omega)
  have a6 := o 23 (by unfold pg_c; omega)
  have a7 := o 24 (by unfold pg_c; omega)
  have a8 := o 25 (by unfold pg_c; omega)
  have a9 := o 26 (by unfold pg_c; omega)
  have b1 := o 27 (by unfold pg_c; omega)
  have b2 := o 28 (by unfold pg_c; omega)
  have b3 := o 29 (by unfold pg_c; omega)
  have b4 := o 30 (by unfold pg_c; omega)
  have b5 := o 79 (by unfold pg_c; omega)
  have b6 := o 80 (by unfold pg_c; omega)
  have b7 := o 81 (by unfold pg_c; omega)
  have b8 := o 82 (by unfold pg_c; omega)
  have b9 := o 83 (by unfold pg_c; omega)
  have c1 := o 85 (by unfold pg_c; omega)
  have c2 := o 86 (by unfold pg_c; omega)
  have c3 := o 87 (by unfold pg_c; omega)
  have c4 := o 88 (by unfold pg_c; omega)
  have c5 := o 89 (by unfold pg_c; omega)
  have c6 := o 90 (by unfold pg_c; omega)
  have c7 := o 92 (by unfold pg_c; omega)
  have c8 := o 93 (by unfold pg_c; omega)
  have c9 := o 94 (by unfold pg_c; omega)
  unfold pg_I rp_N at h ⊢
  rw [a1, a2, a3, a4, a5, a6, a7, a8, a9, b1, b2, b3, b4, b5, b6, b7, b8, b9, c1, c2, c3, c4, c5, c6, c7, c8, c9, o7]
  exact h
/-- every THING is of one DEF -/
theorem pg_of {L : Nat → Nat} (h0 : L 0 = 0) (t : Nat) : ∀ n, t < L n → ∃ d, d < n ∧ L d ≤ t ∧ t < L (d + 1)
  | 0, h => absurd h (by omega)
  | n + 1, h => by
    by_cases c : t < L n
    · obtain ⟨d, h1, h2⟩ := pg_of h0 t n c
      exact ⟨d, by omega, h2⟩
    · exact ⟨n, by omega, by omega, h⟩
/-- L rises -/
theorem pg_mono {nd : Nat} {sz L : Nat → Nat} (h : ∀ d, d < nd → L d + sz d ≤ L (d + 1)) {a : Nat} : ∀ {b : Nat}, a ≤ b → b ≤ nd → L a ≤ L b
  | 0, hab, _ => by have : a = 0 := by omega
                    subst this; exact Nat.le_refl _
  | b + 1, hab, hb => by
    by_cases c : a = b + 1
    · subst c; exact Nat.le_refl _
    · have h1 := pg_mono h (a := a) (b := b) (by omega) (by omega)
      have h2 := h b (by omega)
      omega
theorem pg_Gb {L w t : Nat} (h : t ∈ pg_G L w) : L ≤ t ∧ t < L + w := pg_Gm.mp h
section PG
variable {hi : Nat → Nat → Int32} {hl : Nat → Nat → Int64} {nd nt nn hf : Nat} {sz L bd st : Nat → Nat}
def rd_D (u : Nat) : Int32 := if u = 0 then 0 else 4
theorem rd_Dm (u : Nat) : rd_D u ∈ us_dm := by
  unfold rd_D
  split <;> decide
theorem cf_def (d e u : Nat) (P : pg_I hi nd nt nn hf sz L bd st) (he : e < nd) (hR : ∀ i, hi 36 i ∈ us_codes) (hse : ∀ t, t < 200 → hi 41 t ∈ ([0, 1, 2] : List Int32)) :
    ∃ hi' : Nat → Nat → Int32, am_call tb_P (d + 6) 108 [.ref 38, .int (nI e), .int (rd_D u)] (pr_S, hi, hl) = some (none, (pr_S, hi', hl)) ∧ (∀ c, c < 38 ∨ 44 < c → hi' c = hi c) ∧ hi' 39 1 = nI 0 ∧ (∀ t, L e ≤ t → t < L (e + 1) → hi' 40 t = ft (hi 26) (hi 27) (hi 28) (hi 29) (hi 30) (hi 20) (hi 36) 4000 (bd e) (rd_D u) t) ∧ (∀ t, t < 200 → hi' 41 t = us_max (hi 41 t) (ft (hi 26) (hi 27) (hi 28) (hi 29) (hi 30) (hi 20) (hi 36) 4000 (bd e) (rd_D u) (200 + t))) := by
  obtain ⟨p1, p2, p3, p4, p5, p6, p7, p8, p9, p10, p11, p12, p13, p14⟩ := P
  obtain ⟨q1, q2, q3, q4, q5, q6, q7, q8, q9, q10, ⟨f, g, q11, q12, q13⟩, q14⟩ := p12 e he
  have m1 : L (e + 1) ≤ L nd := pg_mono (sz := sz) (fun d hd => (p12 d hd).2.2.2.2.2.2.2.2.2.1) (by omega) (Nat.le_refl _)
  exact ea_foretell d e (bd e) (L e) (L (e + 1)) 4000 f g (st e) (L e + sz e) (pg_G (L e) (sz e)) (rd_D u) hi he p1 (by omega) (by omega) q10 hR (fun e he => ⟨sz e, (p12 e he).1, (p12 e he).2.1⟩) p5 q5 ⟨fun h => (p12 (e + 1) h).2.2.2.2.1, fun h => by rw [h, p11]; exact p6⟩ q7 q13 (by omega) q12 (fun t ht => pg_Gb ht) (rd_Dm u) hse
theorem ft_ok (d u : Nat) (P : pg_I hi nd nt nn hf sz L bd st) (hd : d < nd) (hR : ∀ i, hi 36 i ∈ us_codes) : ft_g (pg_G (L d) (sz d)) (ft (hi 26) (hi 27) (hi 28) (hi 29) (hi 30) (hi 20) (hi 36) 4000 (bd d) (rd_D u)) := by
  obtain ⟨p1, p2, p3, p4, p5, p6, p7, p8, p9, p10, p11, p12, p13, p14⟩ := P
  obtain ⟨q1, q2, q3, q4, q5, q6, q7, q8, q9, q10, ⟨f, g, q11, q12, q13⟩, q14⟩ := p12 d hd
  have m1 : L (d + 1) ≤ L nd := pg_mono (sz := sz) (fun d hd => (p12 d hd).2.2.2.2.2.2.2.2.2.1) (by omega) (Nat.le_refl _)
  exact ft_good hR 4000 _ _ _ _ _ _ _ _ q13 (by omega) (fun t ht => (pg_Gb ht).2) (by omega) (rd_Dm u)
theorem ft_okR {R : Nat → Int32} (d u : Nat) (P : pg_I hi nd nt nn hf sz L bd st) (hd : d < nd) (hR : ∀ i, R i ∈ us_codes) : ft_g (pg_G (L d) (sz d)) (ft (hi 26) (hi 27) (hi 28) (hi 29) (hi 30) (hi 20) R 4000 (bd d) (rd_D u)) := by
  obtain ⟨p1, p2, p3, p4, p5, p6, p7, p8, p9, p10, p11, p12, p13, p14⟩ := P
  obtain ⟨q1, q2, q3, q4, q5, q6, q7, q8, q9, q10, ⟨f, g, q11, q12, q13⟩, q14⟩ := p12 d hd
  have m1 : L (d + 1) ≤ L nd := pg_mono (sz := sz) (fun d hd => (p12 d hd).2.2.2.2.2.2.2.2.2.1) (by omega) (Nat.le_refl _)
  exact ft_good hR 4000 _ _ _ _ _ _ _ _ q13 (by omega) (fun t ht => (pg_Gb ht).2) (by omega) (rd_Dm u)
/-- the reference's foretell of a DEF, with its row made ahead; h is the heap with rowsTaken 0 already -/
theorem mf_def (R : Nat → Int32) (d e u : Nat) (hd : 1300 ≤ d) (P : pg_I hi nd nt nn hf sz L bd st) (he : e < nd) (hR : ∀ i, R i ∈ us_codes) (hRm : ∀ i, i < 192 → hi 97 i = uk_c (R i) ∧ hi 98 i = uk_d (R i)) (hse : ∀ t, t < 200 → hi 101 t ∈ ([0, 1, 2] : List Int32)) :
    ∃ h1 h2 : Nat → Nat → Int32, am_call tb_P d 51 [.ref 73] (pr_S, am_si hi 73 39 0, hl) = some (some (.int (nI 0)), (pr_S, h1, hl)) ∧ (∀ c, c ≠ 99 → c ≠ 100 → c ≠ 73 → h1 c = hi c) ∧ (∀ x, x ≠ 39 → h1 73 x = hi 73 x) ∧ am_call tb_P d 57 [.ref 73, .int (nI 0), .int (nI (2900 * hf + bd e)), .int (rd_D u)] (pr_S, h1, hl) = some (none, (pr_S, h2, hl)) ∧ (∀ c, c ≠ 99 → c ≠ 100 → c ≠ 101 → c ≠ 73 → h2 c = hi c) ∧ (∀ x, x ≠ 39 → h2 73 x = hi 73 x) ∧ (∀ t, t < 200 → h2 99 t = uk_c (ft (hi 26) (hi 27) (hi 28) (hi 29) (hi 30) (hi 20) R 4000 (bd e) (rd_D u) t) ∧ h2 100 t = uk_d (ft (hi 26) (hi 27) (hi 28) (hi 29) (hi 30) (hi 20) R 4000 (bd e) (rd_D u) t)) ∧ (∀ t, t < 200 → h2 101 t = us_max (hi 101 t) (ft (hi 26) (hi 27) (hi 28) (hi 29) (hi 30) (hi 20) R 4000 (bd e) (rd_D u) (200 + t))) := by
  have P0 := P
  obtain ⟨p1, p2, p3, p4, p5, p6, p7, p8, p9, p10, p11, p12, p13, p14⟩ := P
  obtain ⟨q1, q2, q3, q4, q5, q6, q7, q8, q9, q10, ⟨f, g, q11, q12, q13⟩, q14⟩ := p12 e he
  have m1 : L (e + 1) ≤ L nd := pg_mono (sz := sz) (fun d hd => (p12 d hd).2.2.2.2.2.2.2.2.2.1) (by omega) (Nat.le_refl _)
  have s0 : fm_S hi (am_si hi 73 39 0) 0 (fun _ _ => 0) (hi 101) := ⟨fun c _ _ _ q => am_si_ne q, fun x hx => am_si_off (by omega), am_si_at _ _ _ _, fun r t h => absurd h (Nat.not_lt_zero _), fun t _ => by rw [am_si_ne (by decide)]⟩
  obtain ⟨d, rfl⟩ : ∃ d', d = d' + 1 := ⟨d - 1, by omega⟩
  obtain ⟨h1, r1, s1⟩ := fm_empty (hl := hl) d (by decide) s0
  have X := ft_okR e u P0 he hR
  have M := ft_model (hl := hl) (SZ := hi 20) p3 hR rfl p4 p2 p7 p9 hRm p1 (fun e he => ⟨sz e, (p12 e he).1, (p12 e he).2.1, (p12 e he).2.2.1⟩) p14 4000
  obtain ⟨h2, r2, s2⟩ := fm_call (D := rd_D u) (ρ := 0) M q13 q9 p3 (fun t ht => (pg_Gb ht).2) (by omega) (rd_Dm u) (by rw [fm_at]; exact fun t ht => ⟨us_c0, hse t ht⟩) (fun t _ _ => by rw [fm_at]) (by decide) (by omega) (show 4 * f + 5 ≤ d + 1 by omega) s1
  refine ⟨h1, h2, r1, fun c q1 q2 q4 => ?_, s1.2.1, r2, s2.1, s2.2.1, fun t ht => ?_, s2.2.2.2.2⟩
  · by_cases q3 : c = 101
    · subst q3
      funext t
      have e1 := em_emptyRow d 0 (am_si hi 73 39 0) hl (am_si_at _ _ _ _) (by decide)
      obtain ⟨h9, t1, _, t3, _, _⟩ := e1
      rw [show (200 : Nat) * 0 = 0 from rfl] at t1
      have e2 := Option.some.inj (r1.symm.trans t1)
      have e3 : h1 = h9 := (Prod.mk.inj (Prod.mk.inj (Prod.mk.inj e2).2).2).1
      rw [e3, t3 _ _ (by decide) (by decide) (by omega), am_si_ne (by decide)]
    · exact s1.1 c q1 q2 q3 q4
  · have e1 := s2.2.2.2.1 0 t (by decide) ht
    rw [fm_at, fm_at, ft_v0 X ht, show 200 * 0 + t = t by omega] at e1
    exact e1
end PG
