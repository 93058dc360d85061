/-! the start -/
theorem in_q1 : in_r1 = some (none, in_G1) ∧ in_G1.1.length = 73 ∧ am_sz in_G1.1 = 286321 := by
  have s := in_s1
  unfold in_G1
  cases e : in_r1 with
  | none => rw [e] at s; cases s
  | some r =>
    rw [e] at s
    have q := Option.some.inj (show some (r.1, r.2.1.length, am_sz r.2.1) = some (none, 73, 286321) from s)
    have q1 := (Prod.mk.inj q).1
    have q2 := (Prod.mk.inj (Prod.mk.inj q).2).1
    have q3 := (Prod.mk.inj (Prod.mk.inj q).2).2
    exact ⟨by rw [← q1], q2, q3⟩
theorem in_q2 : in_r2 = some (none, (pr_S, in_G2.2.1, in_G2.2.2)) ∧ in_G2.1 = pr_S := by
  have s := in_s2
  unfold in_G2
  cases e : in_r2 with
  | none => rw [e] at s; cases s
  | some r =>
    rw [e] at s
    have q := Option.some.inj (show some (r.1, r.2.1) = some (none, pr_S) from s)
    have q1 := (Prod.mk.inj q).1
    have q2 := (Prod.mk.inj q).2
    exact ⟨by rw [← q1, ← q2], q2⟩
set_option maxRecDepth 100000 in
theorem in_v1 : in_G2.2.1 0 8 = -1 ∧ in_G2.2.1 0 9 = 0 ∧ in_G2.2.1 17 0 = 0 ∧ in_G2.2.1 17 1 = 0 ∧ in_G2.2.1 73 7 = 0 ∧ in_G2.2.1 85 0 = 0 ∧ in_G2.2.1 86 0 = 0 ∧ in_G2.2.1 35 5 = 1 ∧ in_G2.2.1 73 28 = -1 ∧ in_G2.2.1 73 36 = 0 ∧ in_G2.2.1 45 2 = 0 ∧ in_G2.2.1 73 74 = 0 ∧ in_G2.2.1 73 32 = 0 ∧ in_G2.2.1 1 0 = 0 ∧ in_G2.2.1 73 1 = 0 := by decide +kernel
set_option maxRecDepth 100000 in
theorem in_v2 : ∀ i, i < 192 → in_G2.2.1 36 i = 0 ∧ in_G2.2.1 97 i = 0 ∧ in_G2.2.1 98 i = 0 := by decide +kernel
set_option maxRecDepth 100000 in
theorem in_v3 : ∀ t, t < 200 → in_G2.2.1 41 t = 0 ∧ in_G2.2.1 101 t = 0 ∧ in_G2.2.1 47 t = in_G2.2.1 127 t := by decide +kernel
set_option maxRecDepth 100000 in
theorem in_v4 : (∀ j, j < 4 → in_G2.2.1 72 j = in_G2.2.1 104 j) ∧ (∀ k, k < 7 → in_G2.2.1 46 k = in_G2.2.1 128 k) := by decide +kernel
theorem in_iv : iv_X in_G2.2.1 in_G2.2.2 := by
  obtain ⟨a1, a2, a3, a4, a5, a6, a7, a8, a9, b1, b2, b3, b4, b5, b6⟩ := in_v1
  have nw : ∀ i, in_G2.2.1 36 i = 0 := fun i => by
    by_cases h : i < 192
    · exact (in_v2 i h).1
    · exact in_zo 36 (100, 192, []) (by rw [in_q2.2]; rfl) i (by show 192 ≤ i; omega)
  refine ⟨0, 0, 0, 0, fun _ => 0, fun _ => 0, fun _ => 0, fun _ => 0, fun _ => 0, 0, ⟨⟨by omega, by omega, by omega, by omega, a3, a4, a5, a6, a7, rfl, rfl, fun d hd => absurd hd (by omega), fun d hd => absurd hd (by omega), fun d hd => absurd hd (by omega)⟩, fun k hk => absurd hk (by omega)⟩, ⟨fun i => by rw [nw]; exact us_c0, fun i hi => by rw [nw, (in_v2 i hi).2.1, (in_v2 i hi).2.2]; exact ⟨by decide, by decide⟩⟩, ⟨fun t ht => by rw [(in_v3 t ht).1]; decide, fun t ht => by rw [(in_v3 t ht).2.1]; decide⟩, Or.inl a8, ⟨⟨b5, by omega, fun p hp => absurd hp (by omega)⟩, ⟨b6, by omega, fun p hp => absurd hp (by omega)⟩⟩, ⟨by rw [a1, a9], by rw [a2, b1], by rw [b2, b3], 0, b4⟩, in_v4.1, fun t ht => (in_v3 t ht).2.2, in_v4.2⟩
