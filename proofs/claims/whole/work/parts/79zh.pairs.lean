/-! the pairs of calls -/
def pq (a b : Nat) (as : List Value) : Prop := ∀ (hi : Nat → Nat → Int32) (hl : Nat → Nat → Int64), iv_X hi hl → ∃ (r : Int32) (hi1 : Nat → Nat → Int32) (hl1 : Nat → Nat → Int64) (hi2 : Nat → Nat → Int32) (hl2 : Nat → Nat → Int64), am_call tb_P 2000 a (.ref 0 :: as) (pr_S, hi, hl) = some (some (.int r), (pr_S, hi1, hl1)) ∧ am_call tb_P 2000 b (.ref 73 :: as) (pr_S, hi1, hl1) = some (some (.int r), (pr_S, hi2, hl2)) ∧ iv_X hi2 hl2
theorem us_rl : ∀ v ∈ us_codes, ∃ a ∈ List.range 3, ∃ b ∈ List.range 5, (a = 0 → b = 0) ∧ v = nI (8 * a + b) ∧ uk_c v = nI a ∧ uk_d v = nI b := by decide +kernel
theorem us_rl2 {v : Int32} (h : v ∈ us_codes) : us_rel v (uk_c v) (uk_d v) := by
  obtain ⟨a, ha, b, hb, h1, h2, h3, h4⟩ := us_rl v h
  exact ⟨a, b, by have := List.mem_range.mp ha; omega, by have := List.mem_range.mp hb; omega, h1, h2, h3, h4⟩
theorem us_pl : ∀ a, a < 3 → ∀ b, b < 5 → (a = 0 → b = 0) → nI (8 * a + b) ∈ us_codes ∧ uk_c (nI (8 * a + b)) = nI a ∧ uk_d (nI (8 * a + b)) = nI b := by decide +kernel
theorem i8_n : ∀ n, n < 256 → (Int8.ofNat n).toInt32 = by_c n := by decide +kernel
theorem i8_o (b : Int8) : ∃ n, n < 256 ∧ b = Int8.ofNat n := by
  obtain ⟨⟨v⟩⟩ := b
  exact ⟨v.toNat, v.isLt, by show _ = Int8.ofUInt8 ⟨BitVec.ofNat 8 v.toNat⟩; rw [BitVec.ofNat_toNat]; simp⟩
theorem ty_by (v : Int64) (k : Nat) : ∃ n, n < 256 ∧ ty_b v k = by_c n := by
  unfold ty_b
  rw [vp_nar_byte]
  obtain ⟨n, h1, h2⟩ := i8_o (((v >>> ((8 * nI k).toInt64 &&& 63)).toInt32.toInt8.toInt32).toInt8)
  exact ⟨n, h1, by rw [h2]; exact i8_n n h1⟩
section PB
variable {hi hj : Nat → Nat → Int32} {hl : Nat → Nat → Int64} {nd nt nn hf N : Nat} {sz L bd st B : Nat → Nat}
theorem pb_place : pq 3 47 [] := fun hi hl ⟨nd, nt, nn, hf, sz, L, bd, st, B, N, I⟩ => ⟨hi 0 8, hi, hl, hi, hl, ea_place 1999 hi hl, by rw [I.2.2.2.2.2.1.1]; exact em_place 1999 hi hl, nd, nt, nn, hf, sz, L, bd, st, B, N, I⟩
theorem pb_value : pq 12 88 [] := fun hi hl ⟨nd, nt, nn, hf, sz, L, bd, st, B, N, I⟩ => ⟨hi 45 2, hi, hl, hi, hl, ea_value 1999 hi hl, by rw [I.2.2.2.2.2.1.2.2.1]; exact em_value 1999 hi hl, nd, nt, nn, hf, sz, L, bd, st, B, N, I⟩
theorem pb_told (x : Int32) : pq 14 90 [.int x] := fun hi hl ⟨nd, nt, nn, hf, sz, L, bd, st, B, N, I⟩ => by
  obtain ⟨⟨P, PK⟩, ⟨hR, hRm⟩, ⟨hse, hu⟩, stale, ⟨TC, TM⟩, ⟨v1, v2, v3, w, v4⟩, ar, cd, co⟩ := id I
  obtain ⟨p1, p2, p3, p4, p5, p6, p7, p8, p9, p10, p11, p12, p13, p14⟩ := P
  have q0 := ea_told 1999 x hi hl
  have q1 := em_told 1999 x hi hl (by rw [p7]; exact nI_in p4 (by decide))
  rw [p7, nI_clamp (by omega), TM.1, p8, p9, ← v2] at q1
  rw [TC.1, p5, p6] at q0
  exact ⟨_, hi, hl, hi, hl, q0, q1, nd, nt, nn, hf, sz, L, bd, st, B, N, I⟩
theorem pb_count (x : Int32) : pq 13 89 [.int x] := fun hi hl ⟨nd, nt, nn, hf, sz, L, bd, st, B, N, I⟩ => by
  have co := I.2.2.2.2.2.2.2.2
  have e : ez_count (hi 46) x = ez_count (hi 128) x := by
    unfold ez_count
    by_cases b : am_bad x 7
    · rw [if_pos b, if_pos b]
    · rw [if_neg b, if_neg b]
      exact co _ (Nat.lt_of_not_le (fun q => b (Or.inr q)))
  exact ⟨ez_count (hi 46) x, hi, hl, hi, hl, ea_count 1998 x hi hl, by rw [e]; exact em_count 1999 x hi hl, nd, nt, nn, hf, sz, L, bd, st, B, N, I⟩
theorem pb_def (a w : Int32) : pq 4 49 [.int a, .int w] := fun hi hl ⟨nd, nt, nn, hf, sz, L, bd, st, B, N, I⟩ => by
  obtain ⟨p1, p2, p3, p4, p5, p6, p7, p8, p9, p10, p11, p12, p13, p14⟩ := I.1.1
  obtain ⟨r, q1, q2⟩ := pr_def 1998 hi hl a w nd hf p1 p4 p5 p7 p8 (fun d hd => (p12 d hd).2.2.1.trans (p12 d hd).1.symm) (fun d hd => (p12 d hd).2.2.2.1)
  exact ⟨r, hi, hl, hi, hl, q1, q2, nd, nt, nn, hf, sz, L, bd, st, B, N, I⟩
theorem pb_row (a y x w : Int32) : pq 7 66 [.int a, .int y, .int x, .int w] := fun hi hl ⟨nd, nt, nn, hf, sz, L, bd, st, B, N, I⟩ => by
  obtain ⟨p1, p2, p3, p4, p5, p6, p7, p8, p9, p10, p11, p12, p13, p14⟩ := I.1.1
  obtain ⟨r, q1, q2⟩ := pr_row 1997 a y x w nd hf sz hi hl p1 p4 p5 p7 p8 (fun d hd => ⟨(p12 d hd).1, (p12 d hd).2.1⟩) (fun d hd => ⟨(p12 d hd).2.2.1, (p12 d hd).2.1⟩) (fun k hk => by
    rw [(I.2.1.2 k hk).1, (I.2.1.2 k hk).2]
    exact us_rl2 (I.2.1.1 k))
  exact ⟨r, hi, hl, hi, hl, q1, q2, nd, nt, nn, hf, sz, L, bd, st, B, N, I⟩
theorem stl (o : ∀ c, 19 ≤ c → c ≤ 30 → hj c = hi c) (oR : hj 35 5 = hi 35 5) (oN : hj 36 = hi 36) (oU : hj 31 = hi 31) (s : hi 35 5 = 1 ∨ (hi 35 5 = 0 ∧ ∀ t, t < nt → us_P hi (hi 36) nd sz L bd t (hi 31 t))) : hj 35 5 = 1 ∨ (hj 35 5 = 0 ∧ ∀ t, t < nt → us_P hj (hj 36) nd sz L bd t (hj 31 t)) := by
  rw [oR, oN, oU]
  rcases s with q | ⟨q1, q2⟩
  · exact Or.inl q
  · exact Or.inr ⟨q1, fun t ht => us_Pj o (q2 t ht)⟩
theorem pgk (o : ∀ c, pg_c c → hj c = hi c) (o7 : hj 73 7 = hi 73 7) (h : pg_I hi nd nt nn hf sz L bd st ∧ pk_I hi nd nn sz L) : pg_I hj nd nt nn hf sz L bd st ∧ pk_I hj nd nn sz L := ⟨pg_fr o o7 h.1, pk_fr (fun c a b => o c (by unfold pg_c; omega)) h.2⟩
theorem pb_argument (x v : Int32) : pq 10 69 [.int x, .int v] := fun hi hl ⟨nd, nt, nn, hf, sz, L, bd, st, B, N, I⟩ => by
  have q1 := ea_argument 1998 x v hi hl
  by_cases b : am_bad x 4
  · have q2 := em_argument 1999 x v hi hl
    rw [if_pos b, if_pos b] at q1 q2
    exact ⟨-1, hi, hl, hi, hl, q1, q2, nd, nt, nn, hf, sz, L, bd, st, B, N, I⟩
  · rw [if_neg b, if_neg b] at q1
    have q2 := em_argument 1999 x v (am_si hi 72 x.toNatClampNeg v) hl
    rw [if_neg b, if_neg b] at q2
    obtain ⟨PP, ⟨hR, hRm⟩, ⟨hse, hu⟩, stale, ⟨TC, TM⟩, ⟨v1, v2, v3, w, v4⟩, ar, cd, co⟩ := I
    have x4 : x.toNatClampNeg < 4 := Nat.lt_of_not_le (fun q => b (Or.inr q))
    obtain ⟨j, hj⟩ : ∃ j, j = x.toNatClampNeg := ⟨_, rfl⟩
    rw [← hj] at q1 q2 x4
    have e1 : (am_si hi 72 j v) 104 j = hi 72 j := by rw [am_si_ne (by decide)]; exact (ar j x4).symm
    rw [e1] at q2
    obtain ⟨h2, e2⟩ : ∃ y, y = am_si (am_si hi 72 j v) 104 j v := ⟨_, rfl⟩
    rw [← e2] at q2
    have o : ∀ c, c ≠ 72 → c ≠ 104 → h2 c = hi c := fun c a1 a2 => by rw [e2, am_si_ne a2, am_si_ne a1]
    have o' : ∀ c, 19 ≤ c → c ≤ 30 → h2 c = hi c := fun c a1 a2 => o c (by omega) (by omega)
    have oM : h2 73 = hi 73 := o _ (by decide) (by decide)
    have o0 : h2 0 = hi 0 := o _ (by decide) (by decide)
    refine ⟨_, _, hl, h2, hl, q1, q2, nd, nt, nn, hf, sz, L, bd, st, B, N, pgk (fun c hc => o c (by unfold pg_c at hc; omega) (by unfold pg_c at hc; omega)) (by rw [oM]) PP, ⟨by rw [o 36 (by decide) (by decide)]; exact hR, by rw [o 36 (by decide) (by decide), o 97 (by decide) (by decide), o 98 (by decide) (by decide)]; exact hRm⟩, ⟨by rw [o 41 (by decide) (by decide)]; exact hse, by rw [o 101 (by decide) (by decide)]; exact hu⟩, stl o' (by rw [o _ (by decide) (by decide)]) (o _ (by decide) (by decide)) (o _ (by decide) (by decide)) stale, ⟨by unfold tx_C; rw [o 1 (by decide) (by decide), o 2 (by decide) (by decide)]; exact TC, by unfold tx_M; rw [oM, o 74 (by decide) (by decide)]; exact TM⟩, by rw [o0, oM, o 45 (by decide) (by decide)]; exact ⟨v1, v2, v3, w, v4⟩, fun i hi' => ?_, by rw [o 47 (by decide) (by decide), o 127 (by decide) (by decide)]; exact cd, by rw [o 46 (by decide) (by decide), o 128 (by decide) (by decide)]; exact co⟩
    by_cases ij : i = j
    · subst ij
      rw [e2, am_si_at, am_si_ne (by decide), am_si_at]
    · have x1 : h2 72 i = hi 72 i := by rw [e2, am_si_ne (by decide), am_si_off (fun z => ij z.2)]
      have x2 : h2 104 i = hi 104 i := by rw [e2, am_si_off (fun z => ij z.2), am_si_ne (by decide)]
      rw [x1, x2]
      exact ar i hi'
theorem pb_plant (a y x c e : Int32) : pq 8 67 [.int a, .int y, .int x, .int c, .int e] := fun hi hl ⟨nd, nt, nn, hf, sz, L, bd, st, B, N, I⟩ => by
  obtain ⟨p1, p2, p3, p4, p5, p6, p7, p8, p9, p10, p11, p12, p13, p14⟩ := I.1.1
  have go : ∀ hi1, (hi1 = hi ∨ ∃ k v, hi1 = am_si (am_si hi 36 k v) 35 5 1) → _ := fun hi1 g => pr_plant 1997 a y x c e nd hf sz hi hl p1 p4 p5 p7 p8 (fun d hd => ⟨(p12 d hd).1, (p12 d hd).2.1⟩) (fun d hd => ⟨(p12 d hd).2.2.1, (p12 d hd).2.1⟩) hi1 g
  rcases go hi (Or.inl rfl) with ⟨r, q1, q2⟩ | ⟨k, p, q, hk, hp, hq, hpq, q1, _⟩
  · exact ⟨r, hi, hl, hi, hl, q1, q2, nd, nt, nn, hf, sz, L, bd, st, B, N, I⟩
  · rcases go (am_si (am_si hi 36 k (nI (8 * p + q))) 35 5 1) (Or.inr ⟨_, _, rfl⟩) with ⟨r, z1, z0⟩ | ⟨k', p', q', hk', hp', hq', hpq', z1, z2⟩
    · have E := (Prod.mk.inj (Prod.mk.inj (Prod.mk.inj (Option.some.inj (q1.symm.trans z1))).2).2).1
      rw [E] at z0
      exact ⟨r, hi, hl, hi, hl, z1, z0, nd, nt, nn, hf, sz, L, bd, st, B, N, I⟩
    · have E := (Prod.mk.inj (Prod.mk.inj (Prod.mk.inj (Option.some.inj (q1.symm.trans z1))).2).2).1
      obtain ⟨h1, e1⟩ : ∃ y, y = am_si (am_si hi 36 k' (nI (8 * p' + q'))) 35 5 1 := ⟨_, rfl⟩
      rw [E, ← e1] at z2
      rw [← e1] at z1
      obtain ⟨h2, e2⟩ : ∃ y, y = am_si (am_si h1 97 k' (nI p')) 98 k' (nI q') := ⟨_, rfl⟩
      rw [← e2] at z2
      obtain ⟨PP, ⟨hR, hRm⟩, ⟨hse, hu⟩, stale, ⟨TC, TM⟩, ⟨v1, v2, v3, w, v4⟩, ar, cd, co⟩ := I
      have o : ∀ c, c ≠ 35 → c ≠ 36 → c ≠ 97 → c ≠ 98 → h2 c = hi c := fun c a1 a2 a3 a4 => by rw [e2, am_si_ne a4, am_si_ne a3, e1, am_si_ne a1, am_si_ne a2]
      have o' : ∀ c, 19 ≤ c → c ≤ 30 → h2 c = hi c := fun c a1 a2 => o c (by omega) (by omega) (by omega) (by omega)
      have oM : h2 73 = hi 73 := o _ (by decide) (by decide) (by decide) (by decide)
      have o0 : h2 0 = hi 0 := o _ (by decide) (by decide) (by decide) (by decide)
      have us := us_pl p' (by omega) q' (by omega) hpq'
      have nw : ∀ i, i ≠ k' → h2 36 i = hi 36 i := fun i hi' => by rw [e2, am_si_ne (by decide), am_si_ne (by decide), e1, am_si_ne (by decide), am_si_off (fun z => hi' z.2)]
      have nk : h2 36 k' = nI (8 * p' + q') := by rw [e2, am_si_ne (by decide), am_si_ne (by decide), e1, am_si_ne (by decide), am_si_at]
      refine ⟨1, h1, hl, h2, hl, z1, z2, nd, nt, nn, hf, sz, L, bd, st, B, N, pgk (fun c hc => o c (by unfold pg_c at hc; omega) (by unfold pg_c at hc; omega) (by unfold pg_c at hc; omega) (by unfold pg_c at hc; omega)) (by rw [oM]) PP, ⟨fun i => ?_, fun i hi' => ?_⟩, ⟨by rw [o 41 (by decide) (by decide) (by decide) (by decide)]; exact hse, by rw [o 101 (by decide) (by decide) (by decide) (by decide)]; exact hu⟩, Or.inl (by rw [e2, am_si_ne (by decide), am_si_ne (by decide), e1, am_si_at]), ⟨by unfold tx_C; rw [o 1 (by decide) (by decide) (by decide) (by decide), o 2 (by decide) (by decide) (by decide) (by decide)]; exact TC, by unfold tx_M; rw [oM, o 74 (by decide) (by decide) (by decide) (by decide)]; exact TM⟩, by rw [o0, oM, o 45 (by decide) (by decide) (by decide) (by decide)]; exact ⟨v1, v2, v3, w, v4⟩, by rw [o 72 (by decide) (by decide) (by decide) (by decide), o 104 (by decide) (by decide) (by decide) (by decide)]; exact ar, by rw [o 47 (by decide) (by decide) (by decide) (by decide), o 127 (by decide) (by decide) (by decide) (by decide)]; exact cd, by rw [o 46 (by decide) (by decide) (by decide) (by decide), o 128 (by decide) (by decide) (by decide) (by decide)]; exact co⟩
      · by_cases ik : i = k'
        · rw [ik, nk]; exact us.1
        · rw [nw i ik]; exact hR i
      · by_cases ik : i = k'
        · rw [ik, nk, us.2.1, us.2.2, e2, am_si_at, am_si_ne (by decide), am_si_at]
          exact ⟨rfl, rfl⟩
        · have x1 : h2 97 i = hi 97 i := by rw [e2, am_si_ne (by decide), am_si_off (fun z => ik z.2), e1, am_si_ne (by decide), am_si_ne (by decide)]
          have x2 : h2 98 i = hi 98 i := by rw [e2, am_si_off (fun z => ik z.2), am_si_ne (by decide), e1, am_si_ne (by decide), am_si_ne (by decide)]
          rw [nw i ik, x1, x2]
          exact hRm i hi'
end PB
