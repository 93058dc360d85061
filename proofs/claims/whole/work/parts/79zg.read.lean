/-! read: the pair -/
section RD
variable {hi : Nat → Nat → Int32} {hl : Nat → Nat → Int64} {nd nt nn hf N : Nat} {sz L bd st B : Nat → Nat}
theorem pr_read (e : Nat) (I : iv_I hi nd nt nn hf sz L bd st B N) : ∃ (r : Int32) (hi1 : Nat → Nat → Int32) (hl1 : Nat → Nat → Int64) (hi2 : Nat → Nat → Int32) (hl2 : Nat → Nat → Int64), am_call tb_P (e + 342) 2 [.ref 0] (pr_S, hi, hl) = some (some (.int r), (pr_S, hi1, hl1)) ∧ am_call tb_P (e + 342) 46 [.ref 73] (pr_S, hi1, hl1) = some (some (.int r), (pr_S, hi2, hl2)) ∧ iv_X hi2 hl2 := by
  obtain ⟨⟨P, PK⟩, ⟨hR, hRm⟩, ⟨hse, hu⟩, stale, ⟨TC, TM⟩, ⟨v1, v2, v3, w, v4⟩, ar, cd, co⟩ := I
  have hhf := P.2.2.2.1
  have h7 := P.2.2.2.2.2.2.1
  obtain ⟨r, hC, gC, c1, c2, c3, c4⟩ := rd_all (g := hl) e TC TM hhf h7 v4
  obtain ⟨k1, ek⟩ : ∃ x, x = am_si (am_si hC 0 8 (hC 32 0)) 1 0 0 := ⟨_, rfl⟩
  have tc : am_call tb_P (e + 341) 223 [.ref 1] (pr_S, am_si hC 0 8 (hC 32 0), gC) = some (none, (pr_S, k1, gC)) := by
    rw [ek]
    exact tt_clear (e + 340) (am_si hC 0 8 (hC 32 0)) gC
  have f1 : ∀ c, c ≠ 0 → c ≠ 1 → c ≠ 3 → (c < 5 ∨ 16 < c) → c ≠ 32 → c ≠ 34 → k1 c = hi c := fun c q0 q1 q2 q3 q4 q5 => by rw [ek, am_si_ne q1, am_si_ne q0, c2 c q1 q2 q3 q4 q5]
  have f2 : ∀ x, x ≠ 8 → k1 0 x = hi 0 x := fun x q => by rw [ek, am_si_ne (by decide), am_si_off (fun z => q z.2), c2 0 (by decide) (by decide) (by decide) (by decide) (by decide)]
  have f3 : k1 0 8 = hC 32 0 := by rw [ek, am_si_ne (by decide), am_si_at]
  have f4 : k1 1 0 = 0 := by rw [ek, am_si_at]
  have f5 : ∀ c, c ≠ 0 → c ≠ 1 → k1 c = hC c := fun c q0 q1 => by rw [ek, am_si_ne q1, am_si_ne q0]
  have gM : ∀ c, 73 ≤ c → k1 c = hi c := fun c q => f1 c (by omega) (by omega) (by omega) (by omega) (by omega) (by omega)
  rcases c3 with ⟨z, D, t, n, s0, s1, s2, b0, b1, b2⟩ | z
  · obtain ⟨k2, y1, y2, y3, y4, y5, y6, y7⟩ := ea_copyFrom (e + 339) k1 gC (by rw [f5 _ (by decide) (by decide)]; exact s0) (by rw [f5 _ (by decide) (by decide)]; exact s1) (by rw [f5 _ (by decide) (by decide)]; exact s2) b0 b1 (by omega)
    have y8 := ea_rclear (e + 339) k2 gC
    obtain ⟨k3, e3⟩ : ∃ x, x = am_si (fl_h k2 36 0 192) 35 5 1 := ⟨_, rfl⟩
    rw [← e3] at y8
    have y9 := ea_mclear (e + 339) k3 gC
    have q2 : ∀ c, c ≠ 0 → c ≠ 35 → c ≠ 36 → c ≠ 46 ∧ c ≠ 47 ∧ c ≠ 45 ∧ c ≠ 48 ∧ c ≠ 54 ∧ c ≠ 60 ∧ c ≠ 67 → (am_si (xcl k3) 0 9 0) c = k2 c := fun c a1 a2 a3 a4 => by rw [am_si_ne a1, xcl_n a4, e3, am_si_ne a2, fl_other a3]
    have q3 : ∀ c, 73 ≤ c → (am_si (xcl k3) 0 9 0) c = hi c := fun c q => by rw [q2 c (by omega) (by omega) (by omega) (by omega), y2 c (by omega)]; exact gM c q
    have X : am_call tb_P (e + 342) 2 [.ref 0] (pr_S, hi, hl) = some (some (.int (nI D)), (pr_S, am_si (xcl k3) 0 9 0, gC)) := by
      rw [en_2, ht_2_0, ch_2_0, c1, ev_rs, ch_2_1, tc, ev_rn, ch_2_2, if_pos z, ht_2_1, ch_2_3, y1, ev_rn, ch_2_4, y8, ev_rn, ch_2_5, y9, ev_rn, ch_2_6]
      rw [xcl_n (by decide), e3, am_si_ne (by decide), fl_other (by decide), y3]
    obtain ⟨m', mg', o⟩ := c4 (am_si (xcl k3) 0 9 0) gC ⟨by rw [q3 _ (by decide)]; exact TM.1, TM.2.1, fun p hp => by rw [q3 _ (by decide)]; exact TM.2.2 p hp⟩ (by rw [q3 _ (by decide)]; exact h7) (by rw [q3 _ (by decide)]; exact v4)
    rcases o with ⟨nz, _⟩ | ⟨_, pa, D', t', n', sz', L', bd', st', P', o1, o2⟩
    · exact absurd z nz
    · have eD : D' = D := (nI_eq (by have := P'.1; omega) (by omega)).mp (P'.2.2.2.1.symm.trans s0)
      have eT : t' = t := (nI_eq (by have := P'.2.1; omega) (by omega)).mp (P'.2.2.2.2.1.symm.trans s1)
      have eN : n' = n := (nI_eq (by have := P'.2.2.1; omega) (by omega)).mp (P'.2.2.2.2.2.1.symm.trans s2)
      subst eD eT eN
      obtain ⟨g1, g2, g3, g4, g5, g6, g7, g8, g9, g10⟩ := o2
      have mc : ∀ c, c < 73 → m' c = (am_si (xcl k3) 0 9 0) c := fun c q => g1 c (by omega) (by omega) (by omega) (by omega) (by omega)
      have mp : ∀ c, 17 ≤ c → c ≤ 30 → m' c = k2 c := fun c q q' => by rw [mc c (by omega), q2 c (by omega) (by omega) (by omega) (by omega)]
      have nw : ∀ i, m' 36 i = if i < 192 then 0 else hi 36 i := fun i => by
        rw [mc _ (by decide), am_si_ne (by decide), xcl_n (by decide), e3, am_si_ne (by decide)]
        unfold fl_h
        by_cases q : i < 192
        · rw [if_pos ⟨rfl, q⟩, if_pos q]
        · rw [if_neg (fun z => q z.2), if_neg q, y2 _ (by decide), f1 _ (by decide) (by decide) (by decide) (by decide) (by decide) (by decide)]
      have mh : ∀ c, c < 73 → c ≠ 0 → c ≠ 35 → c ≠ 36 → c ≠ 46 ∧ c ≠ 47 ∧ c ≠ 45 ∧ c ≠ 48 ∧ c ≠ 54 ∧ c ≠ 60 ∧ c ≠ 67 → (c < 17 ∨ 30 < c) → m' c = k1 c := fun c a0 a1 a2 a3 a4 a5 => by rw [mc c a0, q2 c a1 a2 a3 a4, y2 c a5]
      have pp := pd_pg P' (by omega) g2 (by rw [mp _ (by decide) (by decide)]; exact y3) (by rw [mp _ (by decide) (by decide)]; exact y4) (fun c i a1 a2 a3 => by rw [mp _ (by omega) (by omega), y5 c i a1 a2 a3, f5 c (by omega) (by omega)]) (fun c i a1 a2 a3 => by rw [mp _ (by omega) (by omega), y6 c i a1 a2 a3, f5 c (by omega) (by omega)]) (fun c i a1 a2 a3 => by rw [mp _ (by omega) (by omega), y7 c i a1 a2 a3, f5 c (by omega) (by omega)])
      refine ⟨nI D', _, gC, m', mg', X, mo_d (d' := e + 342) (by omega) o1, D', t', n', 1 - hf, sz', L', bd', st', B, 0, pp, ⟨fun i => ?_, fun i hi' => ?_⟩, ⟨fun t ht => ?_, fun t ht => ?_⟩, Or.inl ?_, ⟨⟨?_, by omega, fun p hp => absurd hp (by omega)⟩, ⟨g6, by omega, fun p hp => absurd hp (by omega)⟩⟩, ⟨?_, ?_, ?_, g7⟩, fun j hj => ?_, fun t ht => ?_, fun k hk => ?_⟩
      · rw [nw]
        split
        · exact us_c0
        · exact hR i
      · rw [nw, if_pos hi', (g8 i hi').1, (g8 i hi').2]
        exact ⟨by decide, by decide⟩
      · rw [mh _ (by decide) (by decide) (by decide) (by decide) (by decide) (by decide), f1 _ (by decide) (by decide) (by decide) (by decide) (by decide) (by decide)]; exact hse t ht
      · rw [g1 _ (by decide) (by decide) (by decide) (by decide) (by decide), q3 _ (by decide)]; exact hu t ht
      · rw [mc _ (by decide), am_si_ne (by decide), xcl_n (by decide), e3, am_si_at]
      · rw [mh _ (by decide) (by decide) (by decide) (by decide) (by decide) (by decide)]; exact f4
      · rw [mc _ (by decide), am_si_off (by decide), xcl_n (by decide), e3, am_si_ne (by decide), fl_other (by decide), y2 _ (by decide), f3, pa, g3]
      · rw [mc _ (by decide), am_si_at, g4]
      · rw [mc _ (by decide), am_si_ne (by decide), g5]
        unfold xcl
        rw [am_si_off (by decide), am_si_ne (by decide), am_si_ne (by decide), am_si_ne (by decide), am_si_ne (by decide), am_si_at]
      · rw [mh _ (by decide) (by decide) (by decide) (by decide) (by decide) (by decide), f1 _ (by decide) (by decide) (by decide) (by decide) (by decide) (by decide), g1 _ (by decide) (by decide) (by decide) (by decide) (by decide), q3 _ (by decide)]; exact ar j hj
      · rw [mc _ (by decide), am_si_ne (by decide), g9 t ht]
        unfold xcl
        rw [am_si_ne (by decide), am_si_ne (by decide), am_si_ne (by decide), am_si_ne (by decide), am_si_ne (by decide), am_si_ne (by decide), fl_in ht]
      · rw [mc _ (by decide), am_si_ne (by decide), g10 k hk]
        unfold xcl
        rw [am_si_ne (by decide), am_si_ne (by decide), am_si_ne (by decide), am_si_ne (by decide), am_si_ne (by decide), am_si_ne (by decide), fl_other (by decide), fl_in hk]
  · have X : am_call tb_P (e + 342) 2 [.ref 0] (pr_S, hi, hl) = some (some (.int (-10 - r)), (pr_S, k1, gC)) := by
      rw [en_2, ht_2_0, ch_2_0, c1, ev_rs, ch_2_1, tc, ev_rn, ch_2_2, if_neg z]
    obtain ⟨m', mg', o⟩ := c4 k1 gC ⟨by rw [gM _ (by decide)]; exact TM.1, TM.2.1, fun p hp => by rw [gM _ (by decide)]; exact TM.2.2 p hp⟩ (by rw [gM _ (by decide)]; exact h7) (by rw [gM _ (by decide)]; exact v4)
    rcases o with ⟨_, o1, ⟨r1, r2, r3, r4, r5, r6, r7, r8⟩, o3⟩ | ⟨z', _⟩
    · have mc : ∀ c, c < 73 → c ≠ 0 → c ≠ 1 → c ≠ 3 → (c < 5 ∨ 16 < c) → c ≠ 32 → c ≠ 34 → m' c = hi c := fun c q0 q1 q2 q3 q4 q5 q6 => by rw [r1 c (by omega), f1 c q1 q2 q3 q4 q5 q6]
      have mm : ∀ c, 97 ≤ c → m' c = hi c := fun c q => by rw [r1 c (by omega), gM c (by omega)]
      refine ⟨-10 - r, k1, gC, m', mg', X, mo_d (d' := e + 342) (by omega) o1, nd, nt, nn, hf, sz, L, bd, st, B, 0, ⟨?_, ?_⟩, ⟨fun i => ?_, fun i hi' => ?_⟩, ⟨fun t ht => ?_, fun t ht => ?_⟩, ?_, ⟨⟨?_, by omega, fun p hp => absurd hp (by omega)⟩, ⟨r3, by omega, fun p hp => absurd hp (by omega)⟩⟩, ⟨?_, ?_, ?_, r4⟩, fun j hj => ?_, fun t ht => ?_, fun k hk => ?_⟩
      · exact pg_half P (fun c q => mc c (by omega) (by omega) (by omega) (by omega) (by omega) (by omega) (by omega)) (by rw [r2 7 (by omega), gM _ (by decide)]) (fun c i q1 q2 q3 q4 => by rw [r5 c i q1 q2 q3 q4, gM c (by omega)]) (fun c q => by rw [r6 c q, gM c (by omega)]) (fun c i q1 q2 q3 q4 => by rw [r7 c i q1 q2 q3 q4, gM c (by omega)]) (fun c i q1 q2 q3 q4 => by rw [r8 c i q1 q2 q3 q4, gM c (by omega)])
      · exact pk_fr (fun c q1 q2 => mc c (by omega) (by omega) (by omega) (by omega) (by omega) (by omega) (by omega)) PK
      · rw [mc _ (by decide) (by decide) (by decide) (by decide) (by decide) (by decide) (by decide)]; exact hR i
      · rw [mc 36 (by decide) (by decide) (by decide) (by decide) (by decide) (by decide) (by decide), mm 97 (by decide), mm 98 (by decide)]; exact hRm i hi'
      · rw [mc _ (by decide) (by decide) (by decide) (by decide) (by decide) (by decide) (by decide)]; exact hse t ht
      · rw [mm _ (by decide)]; exact hu t ht
      · rw [mc 35 (by decide) (by decide) (by decide) (by decide) (by decide) (by decide) (by decide), mc 36 (by decide) (by decide) (by decide) (by decide) (by decide) (by decide) (by decide), mc 31 (by decide) (by decide) (by decide) (by decide) (by decide) (by decide) (by decide)]
        rcases stale with q | ⟨q1, q2⟩
        · exact Or.inl q
        · exact Or.inr ⟨q1, fun t ht => us_Pj (fun c q1 q2 => mc c (by omega) (by omega) (by omega) (by omega) (by omega) (by omega) (by omega)) (q2 t ht)⟩
      · rw [r1 _ (by decide)]; exact f4
      · rw [r1 _ (by decide), f3, o3]
      · rw [r1 _ (by decide), f2 _ (by decide), r2 36 (by omega), gM _ (by decide)]; exact v2
      · rw [mc _ (by decide) (by decide) (by decide) (by decide) (by decide) (by decide) (by decide), r2 74 (by omega), gM _ (by decide)]; exact v3
      · rw [mc _ (by decide) (by decide) (by decide) (by decide) (by decide) (by decide) (by decide), mm _ (by decide)]; exact ar j hj
      · rw [mc _ (by decide) (by decide) (by decide) (by decide) (by decide) (by decide) (by decide), mm _ (by decide)]; exact cd t ht
      · rw [mc _ (by decide) (by decide) (by decide) (by decide) (by decide) (by decide) (by decide), mm _ (by decide)]; exact co k hk
    · exact absurd z' z
end RD
