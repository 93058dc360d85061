/-! the pairs of calls: thing, type, run, read -/
section PB
variable {hi hj : Nat → Nat → Int32} {hl : Nat → Nat → Int64} {nd nt nn hf N : Nat} {sz L bd st B : Nat → Nat}
/-- the class knows the USE of every THING again -/
theorem rf_R (d : Nat) (I : iv_I hi nd nt nn hf sz L bd st B N) : ∃ h1, am_call tb_P (d + 7) 220 [.ref 35] (pr_S, hi, hl) = some (none, (pr_S, h1, hl)) ∧ iv_I h1 nd nt nn hf sz L bd st B N ∧ (∀ t, t < nt → us_P h1 (h1 36) nd sz L bd t (h1 31 t)) := by
  obtain ⟨PP, ⟨hR, hRm⟩, ⟨hse, hu⟩, stale, ⟨TC, TM⟩, ⟨v1, v2, v3, w, v4⟩, ar, cd, co⟩ := id I
  obtain ⟨h1, c1, s1, s2, s3, s4, s5⟩ := ea_refresh (hl := hl) d PP.1 hR stale hse
  have o1 : ∀ c, 19 ≤ c → c ≤ 30 → h1 c = hi c := fun c a b => s1 c (by omega) (by omega) (by omega)
  have u : ∀ t, t < nt → us_P h1 (h1 36) nd sz L bd t (h1 31 t) := fun t ht => by
    rw [s1 36 (by decide) (by decide) (by decide)]
    exact us_Pj o1 (s4 t ht)
  refine ⟨h1, c1, iv_k I (fun c a1 a2 a3 a4 a5 a6 a7 a8 a9 b1 b2 => s1 c a1 a2 (by omega)) (fun y a b => by rw [s1 73 (by decide) (by decide) (by decide)]) s5 (by rw [s1 101 (by decide) (by decide) (by decide)]; exact hu) (Or.inr ⟨s3, u⟩) (by rw [s1 45 (by decide) (by decide) (by decide), s1 73 (by decide) (by decide) (by decide)]; exact v3) (by rw [s1 47 (by decide) (by decide) (by decide), s1 127 (by decide) (by decide) (by decide)]; exact cd) (by rw [s1 46 (by decide) (by decide) (by decide), s1 128 (by decide) (by decide) (by decide)]; exact co), u⟩
/-- and the reference -/
theorem fu_R (d : Nat) (hd : 1300 ≤ d) (I : iv_I hi nd nt nn hf sz L bd st B N) : ∃ h1, am_call tb_P (d + 1) 62 [.ref 73] (pr_S, hi, hl) = some (none, (pr_S, h1, hl)) ∧ iv_I h1 nd nt nn hf sz L bd st B N ∧ (∀ c, c ≠ 73 → c ≠ 99 → c ≠ 100 → c ≠ 101 → h1 c = hi c) ∧ (∀ x, x ≠ 39 → h1 73 x = hi 73 x) ∧ ((∀ t, t < nt → us_P hi (hi 36) nd sz L bd t (hi 31 t)) → ∀ t, t < nt → hi 31 t = h1 101 t) := by
  obtain ⟨PP, ⟨hR, hRm⟩, ⟨hse, hu⟩, stale, ⟨TC, TM⟩, ⟨v1, v2, v3, w, v4⟩, ar, cd, co⟩ := id I
  obtain ⟨h1, c1, s1, s2, s3, s4⟩ := em_findUses (hl := hl) (R := hi 36) d hd PP.1 hR hRm
  have oc : ∀ c, c < 73 → h1 c = hi c := fun c a => s1 c (by omega) (by omega) (by omega) (by omega)
  refine ⟨h1, c1, iv_k I (fun c a1 a2 a3 a4 a5 a6 a7 a8 a9 b1 b2 => s1 c a5 a6 a7 a8) (fun y a b => s2 y a) (by rw [oc _ (by decide)]; exact hse) s4 (stl (fun c a b => oc c (by omega)) (by rw [oc _ (by decide)]) (by rw [oc _ (by decide)]) (by rw [oc _ (by decide)]) stale) (by rw [oc _ (by decide), s2 _ (by decide)]; exact v3) (by rw [oc 47 (by decide), s1 127 (by decide) (by decide) (by decide) (by decide)]; exact cd) (by rw [oc 46 (by decide), s1 128 (by decide) (by decide) (by decide) (by decide)]; exact co), s1, s2, fun u t ht => us_u PP.1 ht (u t ht) (s3 t ht)⟩
theorem pb_thing (a y : Int32) : pq 5 50 [.int a, .int y] := fun hi hl ⟨nd, nt, nn, hf, sz, L, bd, st, B, N, I⟩ => by
  rw [show (2000 : Nat) = 1998 + 2 from rfl]
  obtain ⟨⟨P, PK⟩, ⟨hR, hRm⟩, ⟨hse, hu⟩, stale, ⟨TC, TM⟩, ⟨v1, v2, v3, w, v4⟩, ar, cd, co⟩ := id I
  obtain ⟨p1, p2, p3, p4, p5, p6, p7, p8, p9, p10, p11, p12, p13, p14⟩ := id P
  have hb : ¬ am_bad (hi 73 7) 2 := by rw [p7]; exact nI_in p4 (by decide)
  have h200 : (200 : Int32) * nI hf = nI (200 * hf) := by rcases (by omega : hf = 0 ∨ hf = 1) with rfl | rfl <;> rfl
  have mt : hi 86 (hi 73 7).toNatClampNeg = nI nt := by rw [p7, nI_clamp (by omega)]; exact p9
  have KEEP : ∀ (r : Int32), am_call tb_P (1998 + 2) 5 [.ref 0, .int a, .int y] (pr_S, hi, hl) = some (some (.int r), (pr_S, hi, hl)) → am_call tb_P (1998 + 2) 50 [.ref 73, .int a, .int y] (pr_S, hi, hl) = some (some (.int r), (pr_S, hi, hl)) → ∃ (r : Int32) (hi1 : Nat → Nat → Int32) (hl1 : Nat → Nat → Int64) (hi2 : Nat → Nat → Int32) (hl2 : Nat → Nat → Int64), am_call tb_P (1998 + 2) 5 (.ref 0 :: [.int a, .int y]) (pr_S, hi, hl) = some (some (.int r), (pr_S, hi1, hl1)) ∧ am_call tb_P (1998 + 2) 50 (.ref 73 :: [.int a, .int y]) (pr_S, hi1, hl1) = some (some (.int r), (pr_S, hi2, hl2)) ∧ iv_X hi2 hl2 := fun r q1 q2 => ⟨r, hi, hl, hi, hl, q1, q2, nd, nt, nn, hf, sz, L, bd, st, B, N, I⟩
  rcases lk_def (x := a) (nd := nt) (by omega) with na | ⟨t, ht, rfl⟩
  · by_cases a0 : a < 0
    · refine KEEP (-1) ?_ ?_
      · rw [en_5, ht_5_0, ch_5_0, if_pos a0, ht_5_1, ch_5_1]
      · rw [en_50, ht_50_0, ch_50_0, if_pos a0, ht_50_1, ch_50_1]
    · have a1 : ¬ a < nI nt := fun q => na ⟨a0, q⟩
      refine KEEP (-1) ?_ ?_
      · rw [en_5, ht_5_0, ch_5_0, if_neg a0, p6, if_neg a1, ht_5_1, ch_5_1]
      · rw [en_50, ht_50_0, ch_50_0, if_neg a0, if_neg hb, mt, if_neg a1, ht_50_1, ch_50_1]
  · have a0 : ¬ nI t < 0 := nI_pos (by omega)
    have a1 : nI t < nI nt := nI_lt ht (by omega)
    have ix : ¬ am_bad (nI (200 * hf + t)) 400 := nI_in (by omega) (by decide)
    have it : ¬ am_bad (nI t) 200 := nI_in (by omega) (by decide)
    have go := p13 t ht
    by_cases y0 : y = 0
    · subst y0
      refine KEEP (hi 23 t) ?_ ?_
      · rw [en_5, ht_5_0, ch_5_0, if_neg a0, p6, if_pos a1, sk_5_1_17, ht_5_2, ch_5_2, if_pos rfl, ht_5_3, ch_5_3, at_23, ev_rs, ch_5_9]
        rw [q_at_nI (by omega) (by decide)]
      · rw [en_50, ht_50_0, ch_50_0, if_neg a0, if_neg hb, mt, if_pos a1, sk_50_1_19, ht_50_2, ch_50_2, p7, h200, nI_add, if_pos rfl, ht_50_3, ch_50_3, if_neg ix]
        rw [nI_clamp (by omega), go.1]
    · by_cases y1 : y = 1
      · subst y1
        refine KEEP (hi 24 t) ?_ ?_
        · rw [en_5, ht_5_0, ch_5_0, if_neg a0, p6, if_pos a1, sk_5_1_17, ht_5_2, ch_5_2, if_neg y0, if_pos rfl, sk_5_3_64, ht_5_4, ch_5_4, at_24, ev_rs, ch_5_10]
          rw [q_at_nI (by omega) (by decide)]
        · rw [en_50, ht_50_0, ch_50_0, if_neg a0, if_neg hb, mt, if_pos a1, sk_50_1_19, ht_50_2, ch_50_2, p7, h200, nI_add, if_neg y0, if_pos rfl, sk_50_3_71, ht_50_4, ch_50_4, if_neg ix]
          rw [nI_clamp (by omega), go.2.1]
      · by_cases y2 : y = 2
        · subst y2
          refine KEEP (hi 25 t) ?_ ?_
          · rw [en_5, ht_5_0, ch_5_0, if_neg a0, p6, if_pos a1, sk_5_1_17, ht_5_2, ch_5_2, if_neg y0, if_neg y1, if_pos rfl, sk_5_3_76, ht_5_5, ch_5_5, at_25, ev_rs, ch_5_11]
            rw [q_at_nI (by omega) (by decide)]
          · rw [en_50, ht_50_0, ch_50_0, if_neg a0, if_neg hb, mt, if_pos a1, sk_50_1_19, ht_50_2, ch_50_2, p7, h200, nI_add, if_neg y0, if_neg y1, if_pos rfl, sk_50_3_78, ht_50_5, ch_50_5, if_neg ix]
            rw [nI_clamp (by omega), go.2.2]
        · by_cases y3 : y = 3
          · subst y3
            obtain ⟨h1, c1, I1, u1⟩ := rf_R (hl := hl) 1992 I
            obtain ⟨h2, c2, I2, _, _, u2⟩ := fu_R (hl := hl) 1998 (by omega) I1
            have uu := u2 u1 t ht
            obtain ⟨d1, d2, d3, d4, d5, d6, d7, d8, d9, _⟩ := id I1.1.1
            have c1' : am_call tb_P (1998 + 1) 220 [.ref 35] (pr_S, hi, hl) = some (none, (pr_S, h1, hl)) := c1
            have c2' : am_call tb_P (1998 + 1) 62 [.ref 73] (pr_S, h1, hl) = some (none, (pr_S, h2, hl)) := c2
            have hb1 : ¬ am_bad (h1 73 7) 2 := by rw [d7]; exact nI_in p4 (by decide)
            have mt1 : h1 86 (h1 73 7).toNatClampNeg = nI nt := by rw [d7, nI_clamp (by omega)]; exact d9
            refine ⟨h1 31 t, h1, hl, h2, hl, ?_, ?_, nd, nt, nn, hf, sz, L, bd, st, B, N, I2⟩
            · rw [en_5, ht_5_0, ch_5_0, if_neg a0, p6, if_pos a1, sk_5_1_17, ht_5_2, ch_5_2, if_neg y0, if_neg y1, if_neg y2, if_pos rfl, sk_5_3_88, ht_5_6, ch_5_6, c1', ev_rn, ch_5_12, at_31, ev_rs, ch_5_14]
              rw [q_at_nI (by omega) (by decide)]
            · rw [en_50, ht_50_0, ch_50_0, if_neg a0, if_neg hb1, mt1, if_pos a1, sk_50_1_19, ht_50_2, ch_50_2, if_neg y0, if_neg y1, if_neg y2, if_pos rfl, sk_50_3_85, ht_50_6, ch_50_6, c2', ev_rn, ch_50_9, if_neg it]
              rw [nI_clamp (by omega), uu]
          · by_cases y4 : y = 4
            · subst y4
              refine KEEP (hi 47 t) ?_ ?_
              · rw [en_5, ht_5_0, ch_5_0, if_neg a0, p6, if_pos a1, sk_5_1_17, ht_5_2, ch_5_2, if_neg y0, if_neg y1, if_neg y2, if_neg y3, if_pos rfl, sk_5_3_104, ht_5_7, ch_5_7, at_47, ev_rs, ch_5_13]
                rw [q_at_nI (by omega) (by decide)]
              · rw [en_50, ht_50_0, ch_50_0, if_neg a0, if_neg hb, mt, if_pos a1, sk_50_1_19, ht_50_2, ch_50_2, if_neg y0, if_neg y1, if_neg y2, if_neg y3, if_pos rfl, sk_50_3_96, ht_50_7, ch_50_7, if_neg it]
                rw [nI_clamp (by omega), cd t (by omega)]
            · refine KEEP (-2) ?_ ?_
              · rw [en_5, ht_5_0, ch_5_0, if_neg a0, p6, if_pos a1, sk_5_1_17, ht_5_2, ch_5_2, if_neg y0, if_neg y1, if_neg y2, if_neg y3, if_neg y4, sk_5_3_116, ht_5_8, ch_5_8]
              · rw [en_50, ht_50_0, ch_50_0, if_neg a0, if_neg hb, mt, if_pos a1, sk_50_1_19, ht_50_2, ch_50_2, if_neg y0, if_neg y1, if_neg y2, if_neg y3, if_neg y4, sk_50_3_103, ht_50_8, ch_50_8]
theorem ty_no {x : Int32} {k : Nat} (h : x < 0 ∨ 8 < x) (hk : k ≤ 8) : x ≠ nI k := by
  rintro rfl
  rcases h with h | h
  · exact nI_pos (by omega) h
  · exact nI_nlt (a := 8) (b := k) hk (by decide) h
theorem pb_type (v : Int64) (x : Int32) : pq 1 20 [.long v, .int x] := fun hi hl ⟨nd, nt, nn, hf, sz, L, bd, st, B, N, I⟩ => by
  obtain ⟨PP, ⟨hR, hRm⟩, ⟨hse, hu⟩, stale, ⟨TC, TM⟩, ⟨v1, v2, v3, w, v4⟩, ar, cd, co⟩ := id I
  have NEW : ∀ (h2 : Nat → Nat → Int32) (B' : Nat → Nat) (N' : Nat), (∀ c j, ¬ (c = 1 ∧ j = 0) → c ≠ 2 → ¬ (c = 73 ∧ j = 1) → c ≠ 74 → h2 c j = hi c j) → tx_C h2 B' N' → tx_M h2 B' N' → iv_X h2 hl := fun h2 B' N' o T1 T2 => by
    have oc : ∀ c, c ≠ 1 → c ≠ 2 → c ≠ 73 → c ≠ 74 → h2 c = hi c := fun c a1 a2 a3 a4 => funext fun j => o c j (fun z => a1 z.1) a2 (fun z => a3 z.1) a4
    have om : ∀ j, j ≠ 1 → h2 73 j = hi 73 j := fun j a => o 73 j (fun z => absurd z.1 (by decide)) (by decide) (fun z => a z.2) (by decide)
    refine ⟨nd, nt, nn, hf, sz, L, bd, st, B', N', pgk (fun c hc => oc c (by unfold pg_c at hc; omega) (by unfold pg_c at hc; omega) (by unfold pg_c at hc; omega) (by unfold pg_c at hc; omega)) (om 7 (by decide)) PP, ⟨by rw [oc 36 (by decide) (by decide) (by decide) (by decide)]; exact hR, by rw [oc 36 (by decide) (by decide) (by decide) (by decide), oc 97 (by decide) (by decide) (by decide) (by decide), oc 98 (by decide) (by decide) (by decide) (by decide)]; exact hRm⟩, ⟨by rw [oc 41 (by decide) (by decide) (by decide) (by decide)]; exact hse, by rw [oc 101 (by decide) (by decide) (by decide) (by decide)]; exact hu⟩, stl (fun c a b => oc c (by omega) (by omega) (by omega) (by omega)) (by rw [oc _ (by decide) (by decide) (by decide) (by decide)]) (oc _ (by decide) (by decide) (by decide) (by decide)) (oc _ (by decide) (by decide) (by decide) (by decide)) stale, ⟨T1, T2⟩, ⟨by rw [oc 0 (by decide) (by decide) (by decide) (by decide), om _ (by decide)]; exact v1, by rw [oc 0 (by decide) (by decide) (by decide) (by decide), om _ (by decide)]; exact v2, by rw [oc 45 (by decide) (by decide) (by decide) (by decide), om _ (by decide)]; exact v3, w, by rw [om _ (by decide)]; exact v4⟩, by rw [oc 72 (by decide) (by decide) (by decide) (by decide), oc 104 (by decide) (by decide) (by decide) (by decide)]; exact ar, by rw [oc 47 (by decide) (by decide) (by decide) (by decide), oc 127 (by decide) (by decide) (by decide) (by decide)]; exact cd, by rw [oc 46 (by decide) (by decide) (by decide) (by decide), oc 128 (by decide) (by decide) (by decide) (by decide)]; exact co⟩
  rcases ty_class 1998 v x N hi hl TC.2.1 TC.1 with ⟨b, q1⟩ | ⟨b, q1⟩ | ⟨k, b1, b2, b3, b4, q1⟩ | ⟨k, h1, b1, b2, b3, b4, q1, t1, t2, t3, t4⟩
  · rcases ty_model 1999 v x N hi hl TM.2.1 TM.1 with ⟨_, q2⟩ | ⟨b', q2⟩ | ⟨k', _, c2, c3, _⟩ | ⟨k', _, _, c2, c3, _⟩
    · exact ⟨-2, hi, hl, hi, hl, q1, q2, nd, nt, nn, hf, sz, L, bd, st, B, N, I⟩
    · exact absurd b' (ty_no (k := 0) b (by omega))
    · exact absurd c3 (ty_no b c2)
    · exact absurd c3 (ty_no b c2)
  · subst b
    rcases ty_model 1999 v 0 N (am_si hi 1 0 0) hl TM.2.1 (by rw [am_si_ne (by decide)]; exact TM.1) with ⟨b', q2⟩ | ⟨_, q2⟩ | ⟨k', c1, c2, c3, _⟩ | ⟨k', _, c1, c2, c3, _⟩
    · exact absurd rfl (ty_no (k := 0) b' (by omega))
    · refine ⟨0, _, hl, _, hl, q1, q2, NEW _ B 0 (fun c j a1 a2 a3 a4 => ?_) ⟨?_, by omega, fun p hp => absurd hp (by omega)⟩ ⟨?_, by omega, fun p hp => absurd hp (by omega)⟩⟩
      · unfold am_si
        split
        · split
          · exact absurd ⟨by assumption, by assumption⟩ a3
          · split
            · split
              · exact absurd ⟨by assumption, by assumption⟩ a1
              · rfl
            · rfl
        · split
          · split
            · exact absurd ⟨by assumption, by assumption⟩ a1
            · rfl
          · rfl
      · rw [am_si_ne (by decide), am_si_at]; rfl
      · rw [am_si_at]; rfl
    · exact absurd c3.symm (nI_ne0 c1 (by omega))
    · exact absurd c3.symm (nI_ne0 c1 (by omega))
  · rcases ty_model 1999 v x N hi hl TM.2.1 TM.1 with ⟨b', q2⟩ | ⟨b', q2⟩ | ⟨k', _, c2, c3, c4, q2⟩ | ⟨k', _, c1, c2, c3, c4, _⟩
    · exact absurd b3 (ty_no b' b2)
    · exact absurd (b3.symm.trans b') (nI_ne0 b1 (by omega))
    · exact ⟨-4, hi, hl, hi, hl, q1, q2, nd, nt, nn, hf, sz, L, bd, st, B, N, I⟩
    · have := (nI_eq (by omega) (by omega)).mp (b3.symm.trans c3)
      omega
  · rcases ty_model 1999 v x N h1 hl TM.2.1 (by rw [t2 _ _ (by decide) (by decide)]; exact TM.1) with ⟨b', q2⟩ | ⟨b', q2⟩ | ⟨k', _, c2, c3, c4, q2⟩ | ⟨k', h2, c1, c2, c3, c4, q2, r1, r2, r3, r4⟩
    · exact absurd b3 (ty_no b' b2)
    · exact absurd (b3.symm.trans b') (nI_ne0 b1 (by omega))
    · have := (nI_eq (by omega) (by omega)).mp (b3.symm.trans c3)
      omega
    · have ek := (nI_eq (by omega) (by omega)).mp (b3.symm.trans c3)
      subst ek
      have hB : ∃ F : Nat → Nat, ∀ j, F j < 256 ∧ ty_b v (k - 1 - j) = by_c (F j) := ⟨fun j => (ty_by v (k - 1 - j)).choose, fun j => (ty_by v (k - 1 - j)).choose_spec⟩
      obtain ⟨F, hF⟩ := hB
      have ec : ∀ c j, ¬ (c = 73 ∧ j = 1) → c ≠ 74 → h2 c j = h1 c j := r2
      refine ⟨nI (N + k), h1, hl, h2, hl, q1, q2, NEW h2 (fun p => if p < N then B p else F (p - N)) (N + k) (fun c j a1 a2 a3 a4 => by rw [r2 c j a3 a4, t2 c j a1 a2]) ⟨by rw [ec _ _ (by decide) (by decide)]; exact t1, b4, fun p hp => ?_⟩ ⟨r1, b4, fun p hp => ?_⟩⟩
      · dsimp only
        rw [ec _ _ (fun z => absurd z.1 (by decide)) (by decide)]
        by_cases pN : p < N
        · rw [if_pos pN, t3 p pN]; exact TC.2.2 p pN
        · rw [if_neg pN]
          have := t4 (p - N) (by omega)
          rw [show N + (p - N) = p by omega] at this
          rw [this]
          exact hF (p - N)
      · dsimp only
        by_cases pN : p < N
        · rw [if_pos pN, r3 p pN, t2 _ _ (fun z => absurd z.1 (by decide)) (by decide)]; exact TM.2.2 p pN
        · rw [if_neg pN]
          have := r4 (p - N) (by omega)
          rw [show N + (p - N) = p by omega] at this
          rw [this]
          exact hF (p - N)
theorem pb_read : pq 2 46 [] := fun hi hl ⟨nd, nt, nn, hf, sz, L, bd, st, B, N, I⟩ => pr_read 1658 I
end PB
