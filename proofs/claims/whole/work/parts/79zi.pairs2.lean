/-! the pairs of calls: analyse, check, thing, type -/
section PB
variable {hi hj : Nat → Nat → Int32} {hl : Nat → Nat → Int64} {nd nt nn hf N : Nat} {sz L bd st B : Nat → Nat}
theorem ra_Ic (P : pg_I hi nd nt nn hf sz L bd st) : ∀ (k : Nat) (R : Nat → Int32), (∀ i, R i ∈ us_codes) → ∀ i, ra_I hi nd sz L bd k R i ∈ us_codes
  | 0, _, h => h
  | k + 1, R, h => ra_Ic P k _ (ra_in P h)
theorem pb_analyse : pq 6 64 [] := fun hi hl ⟨nd, nt, nn, hf, sz, L, bd, st, B, N, I⟩ => by
  obtain ⟨PP, ⟨hR, hRm⟩, ⟨hse, hu⟩, stale, ⟨TC, TM⟩, ⟨v1, v2, v3, w, v4⟩, ar, cd, co⟩ := I
  obtain ⟨k, h1, k1, k2, c1, ⟨s1, s2, s3, s4, s5⟩, s6⟩ := ca_analyse (hl := hl) 1992 PP.1 hR hse
  have o1 : ∀ c, 19 ≤ c → c ≤ 30 → h1 c = hi c := fun c a b => s1 c (by omega) (by omega) (by omega)
  have oM1 : ∀ c, 73 ≤ c → h1 c = hi c := fun c a => s1 c (by omega) (by omega) (by omega)
  have P1 := pgk (hj := h1) (fun c hc => s1 c (by unfold pg_c at hc; omega) (by unfold pg_c at hc; omega) (by unfold pg_c at hc; omega)) (by rw [oM1 _ (by decide)]) PP
  obtain ⟨h2, c2, t1, t2, t3, t4, t5⟩ := ma_analyse (hl := hl) (hi 36) k 1998 (by omega) P1.1 (ra_Kj o1 k _ k2) k1 hR (by rw [oM1 _ (by decide), oM1 _ (by decide)]; exact hRm) (by rw [oM1 _ (by decide)]; exact hu)
  rw [ra_Ij o1] at t4
  have o : ∀ c, c < 73 → h2 c = h1 c := fun c a => t1 c (by omega) (by omega) (by omega) (by omega) (by omega) (by omega) (by omega) (by omega)
  have oo : ∀ c, c ≠ 0 → c ≠ 35 → (c < 36 ∨ 44 < c) → c ≠ 73 → c ≠ 97 → c ≠ 98 → c ≠ 99 → c ≠ 100 → c ≠ 101 → c ≠ 102 → c ≠ 103 → h2 c = hi c := fun c a1 a2 a3 a4 a5 a6 a7 a8 a9 b1 b2 => by rw [t1 c a4 a5 a6 a7 a8 a9 b1 b2, s1 c a1 a2 a3]
  have om : ∀ x, x ≠ 39 → x ≠ 36 → h2 73 x = hi 73 x := fun x a b => by rw [t2 x a b, oM1 _ (by decide)]
  have nw : h2 36 = ra_I hi nd sz L bd k (hi 36) := by rw [o _ (by decide), s4]
  refine ⟨nI k, h1, hl, h2, hl, c1, c2, nd, nt, nn, hf, sz, L, bd, st, B, N, pgk (fun c hc => oo c (by unfold pg_c at hc; omega) (by unfold pg_c at hc; omega) (by unfold pg_c at hc; omega) (by unfold pg_c at hc; omega) (by unfold pg_c at hc; omega) (by unfold pg_c at hc; omega) (by unfold pg_c at hc; omega) (by unfold pg_c at hc; omega) (by unfold pg_c at hc; omega) (by unfold pg_c at hc; omega) (by unfold pg_c at hc; omega)) (om 7 (by decide) (by decide)) PP, ⟨?_, ?_⟩, ⟨?_, t5⟩, Or.inl ?_, ⟨⟨?_, TC.2.1, ?_⟩, ⟨?_, TM.2.1, ?_⟩⟩, ⟨?_, ?_, ?_, w, ?_⟩, ?_, ?_, ?_⟩
  · rw [nw]; exact ra_Ic PP.1 k _ hR
  · rw [nw]; exact t4
  · rw [o _ (by decide)]; exact s5
  · rw [o _ (by decide)]; exact s6
  · rw [o _ (by decide), s1 _ (by decide) (by decide) (by decide)]; exact TC.1
  · rw [o _ (by decide), s1 _ (by decide) (by decide) (by decide)]; exact TC.2.2
  · rw [om _ (by decide) (by decide)]; exact TM.1
  · rw [oo _ (by decide) (by decide) (by decide) (by decide) (by decide) (by decide) (by decide) (by decide) (by decide) (by decide) (by decide)]; exact TM.2.2
  · rw [o _ (by decide), s2 _ (by decide), om _ (by decide) (by decide)]; exact v1
  · rw [o _ (by decide), s3, t3]
  · rw [o _ (by decide), s1 _ (by decide) (by decide) (by decide), om _ (by decide) (by decide)]; exact v3
  · rw [om _ (by decide) (by decide)]; exact v4
  · rw [o 72 (by decide), s1 72 (by decide) (by decide) (by decide), oo 104 (by decide) (by decide) (by decide) (by decide) (by decide) (by decide) (by decide) (by decide) (by decide) (by decide) (by decide)]; exact ar
  · rw [o 47 (by decide), s1 47 (by decide) (by decide) (by decide), oo 127 (by decide) (by decide) (by decide) (by decide) (by decide) (by decide) (by decide) (by decide) (by decide) (by decide) (by decide)]; exact cd
  · rw [o 46 (by decide), s1 46 (by decide) (by decide) (by decide), oo 128 (by decide) (by decide) (by decide) (by decide) (by decide) (by decide) (by decide) (by decide) (by decide) (by decide) (by decide)]; exact co
/-- what check, thing and run may change -/
theorem iv_k (I : iv_I hi nd nt nn hf sz L bd st B N) (o : ∀ c, c ≠ 35 → c ≠ 31 → (c < 37 ∨ 44 < c) → (c < 45 ∨ 71 < c) → c ≠ 73 → c ≠ 99 → c ≠ 100 → c ≠ 101 → c ≠ 102 → c ≠ 103 → c < 105 → hj c = hi c) (om : ∀ x, x ≠ 39 → x < 49 → hj 73 x = hi 73 x) (se : ∀ t, t < 200 → hj 41 t ∈ ([0, 1, 2] : List Int32)) (mu : ∀ t, t < 200 → hj 101 t ∈ ([0, 1, 2] : List Int32)) (s : hj 35 5 = 1 ∨ (hj 35 5 = 0 ∧ ∀ t, t < nt → us_P hj (hj 36) nd sz L bd t (hj 31 t))) (r : hj 45 2 = hj 73 74) (cd' : ∀ t, t < 200 → hj 47 t = hj 127 t) (co' : ∀ k, k < 7 → hj 46 k = hj 128 k) : iv_I hj nd nt nn hf sz L bd st B N := by
  obtain ⟨PP, ⟨hR, hRm⟩, ⟨hse, hu⟩, stale, ⟨TC, TM⟩, ⟨v1, v2, v3, w, v4⟩, ar, cd, co⟩ := I
  have e1 : hj 36 = hi 36 := o _ (by decide) (by decide) (by decide) (by decide) (by decide) (by decide) (by decide) (by decide) (by decide) (by decide) (by decide)
  have e2 : hj 97 = hi 97 := o _ (by decide) (by decide) (by decide) (by decide) (by decide) (by decide) (by decide) (by decide) (by decide) (by decide) (by decide)
  have e3 : hj 98 = hi 98 := o _ (by decide) (by decide) (by decide) (by decide) (by decide) (by decide) (by decide) (by decide) (by decide) (by decide) (by decide)
  have e4 : hj 1 = hi 1 := o _ (by decide) (by decide) (by decide) (by decide) (by decide) (by decide) (by decide) (by decide) (by decide) (by decide) (by decide)
  have e5 : hj 2 = hi 2 := o _ (by decide) (by decide) (by decide) (by decide) (by decide) (by decide) (by decide) (by decide) (by decide) (by decide) (by decide)
  have e6 : hj 74 = hi 74 := o _ (by decide) (by decide) (by decide) (by decide) (by decide) (by decide) (by decide) (by decide) (by decide) (by decide) (by decide)
  have e7 : hj 0 = hi 0 := o _ (by decide) (by decide) (by decide) (by decide) (by decide) (by decide) (by decide) (by decide) (by decide) (by decide) (by decide)
  have e8 : hj 72 = hi 72 := o _ (by decide) (by decide) (by decide) (by decide) (by decide) (by decide) (by decide) (by decide) (by decide) (by decide) (by decide)
  have e9 : hj 104 = hi 104 := o _ (by decide) (by decide) (by decide) (by decide) (by decide) (by decide) (by decide) (by decide) (by decide) (by decide) (by decide)
  refine ⟨pgk (fun c hc => o c (by unfold pg_c at hc; omega) (by unfold pg_c at hc; omega) (by unfold pg_c at hc; omega) (by unfold pg_c at hc; omega) (by unfold pg_c at hc; omega) (by unfold pg_c at hc; omega) (by unfold pg_c at hc; omega) (by unfold pg_c at hc; omega) (by unfold pg_c at hc; omega) (by unfold pg_c at hc; omega) (by unfold pg_c at hc; omega)) (om 7 (by decide) (by decide)) PP, by rw [e1, e2, e3]; exact ⟨hR, hRm⟩, ⟨se, mu⟩, s, ⟨by unfold tx_C; rw [e4, e5]; exact TC, by unfold tx_M; rw [om 1 (by decide) (by decide), e6]; exact TM⟩, ⟨by rw [e7, om _ (by decide) (by decide)]; exact v1, by rw [e7, om _ (by decide) (by decide)]; exact v2, r, w, by rw [om _ (by decide) (by decide)]; exact v4⟩, by rw [e8, e9]; exact ar, cd', co'⟩
theorem pb_check : pq 9 68 [] := fun hi hl ⟨nd, nt, nn, hf, sz, L, bd, st, B, N, I⟩ => by
  obtain ⟨PP, ⟨hR, hRm⟩, ⟨hse, hu⟩, stale, ⟨TC, TM⟩, ⟨v1, v2, v3, w, v4⟩, ar, cd, co⟩ := id I
  obtain ⟨h1, c1, s1, s2, s3⟩ := cr_round (hl := hl) 1992 PP.1 hR hse
  have o1 : ∀ c, 19 ≤ c → c ≤ 30 → h1 c = hi c := fun c a b => s1 c (by omega)
  have p12 := PP.1.2.2.2.2.2.2.2.2.2.2.2.1
  obtain ⟨x, c2, f1⟩ := ea_firstChange (hl := hl) (nd := nd) (sz := sz) 1996 h1 PP.1.1 (by rw [s1 _ (by decide)]; exact PP.1.2.2.2.2.1) (fun e he => by rw [s1 _ (by decide)]; exact ⟨(p12 e he).1, (p12 e he).2.1⟩)
  have P1 := pgk (hj := h1) (fun c hc => s1 c (by unfold pg_c at hc; omega)) (by rw [s1 _ (by decide)]) PP
  obtain ⟨x', h2, c3, f2, ⟨t1, t2, _, t4⟩⟩ := mr_round (hl := hl) (hi 36) 1998 (by omega) P1.1 hR (by rw [s1 _ (by decide), s1 _ (by decide)]; exact hRm) (by rw [s1 _ (by decide)]; exact hu)
  rw [rd_Cj o1] at f2
  have ff : fc_R (rd_C hi (hi 36) sz L bd) (2 * nd) x := fc_cg (fun r hr => by
    unfold cg_C rd_C
    rw [s1 36 (by decide)]
    constructor
    · rintro ⟨i, a, b⟩
      exact ⟨i, a, by rw [s2 (r / 2) (r % 2) i (by omega) (by omega) a] at b; exact b⟩
    · rintro ⟨i, a, b⟩
      exact ⟨i, a, by rw [s2 (r / 2) (r % 2) i (by omega) (by omega) a]; exact b⟩) f1
  have ex := fc_u ff f2
  subst ex
  have o : ∀ c, c < 73 → h2 c = h1 c := fun c a => t1 c (by omega) (by omega) (by omega) (by omega) (by omega) (by omega)
  have I2 : iv_I h2 nd nt nn hf sz L bd st B N := iv_k I (fun c a1 a2 a3 a4 a5 a6 a7 a8 a9 b1 b2 => by rw [t1 c a5 a6 a7 a8 a9 b1, s1 c a3]) (fun y a b => by rw [t2 y a, s1 _ (by decide)]) (by rw [o _ (by decide)]; exact s3) t4 (stl (fun c a b => by rw [o c (by omega), o1 c a b]) (by rw [o _ (by decide), s1 _ (by decide)]) (by rw [o _ (by decide), s1 _ (by decide)]) (by rw [o _ (by decide), s1 _ (by decide)]) stale) (by rw [o _ (by decide), s1 _ (by decide), t2 _ (by decide), s1 _ (by decide)]; exact v3) (by rw [o 47 (by decide), s1 47 (by decide), t1 127 (by decide) (by decide) (by decide) (by decide) (by decide) (by decide), s1 127 (by decide)]; exact cd) (by rw [o 46 (by decide), s1 46 (by decide), t1 128 (by decide) (by decide) (by decide) (by decide) (by decide) (by decide), s1 128 (by decide)]; exact co)
  have c1' : am_call tb_P 1999 215 [.ref 35] (pr_S, hi, hl) = some (none, (pr_S, h1, hl)) := c1
  have c2' : am_call tb_P 1999 216 [.ref 35] (pr_S, h1, hl) = some (some (.int x), (pr_S, h1, hl)) := c2
  have c3' : am_call tb_P 1999 63 [.ref 73] (pr_S, h1, hl) = some (some (.int x), (pr_S, h2, hl)) := c3
  by_cases n1 : x = -1
  · subst n1
    refine ⟨1, h1, hl, h2, hl, ?_, ?_, nd, nt, nn, hf, sz, L, bd, st, B, N, I2⟩
    · rw [show (2000 : Nat) = 1999 + 1 from rfl]
      rw [en_9, ht_9_0, ch_9_0, c1', ev_rn, ch_9_1, c2', ev_rs, ch_9_2, if_neg (by decide), sk_9_1_27, ht_9_2, ch_9_4]
    · rw [show (2000 : Nat) = 1999 + 1 from rfl]
      rw [en_68, ht_68_0, ch_68_0, c3', ev_rs, ch_68_1, if_neg (fun q => q rfl), sk_68_1_18, ht_68_2, ch_68_3]
  · obtain ⟨r, hr, er⟩ : ∃ r, r < 2 * nd ∧ x = nI r := by
      rcases ff with ⟨z, _⟩ | ⟨r, z1, z2, _⟩
      · exact absurd z n1
      · exact ⟨r, z1, z2⟩
    have pn := PP.1.1
    refine ⟨-100 - x, h1, hl, h2, hl, ?_, ?_, nd, nt, nn, hf, sz, L, bd, st, B, N, I2⟩
    · have ge : (0 : Int32) ≤ x := by rw [er]; exact nI_pos' (by omega)
      rw [show (2000 : Nat) = 1999 + 1 from rfl]
      rw [en_9, ht_9_0, ch_9_0, c1', ev_rn, ch_9_1, c2', ev_rs, ch_9_2, if_pos ge, ht_9_1, ch_9_3, ht_9_2, ch_9_4]
    · rw [show (2000 : Nat) = 1999 + 1 from rfl]
      rw [en_68, ht_68_0, ch_68_0, c3', ev_rs, ch_68_1, if_pos n1, ht_68_1, ch_68_2, ht_68_2, ch_68_3]
end PB
