/-! the pair of run -/
section PB
variable {hi h0 : Nat → Nat → Int32} {hl : Nat → Nat → Int64} {nd nt nn hf N : Nat} {sz L bd st B : Nat → Nat}
theorem rz_end {md : Int32} {e l : Nat} (I : iv_I h0 nd nt nn hf sz L bd st B N) (u : md ≠ 0 → ∀ t, t < nt → us_P h0 (h0 36) nd sz L bd t (h0 31 t)) (he : e < nd) (hl4 : l ≤ 10000) (hm : md = 0 ∨ md = 1 ∨ md = 2 ∨ md = 3) : ∃ (hC : Nat → Nat → Int32) (o : Int32) (h2 : Nat → Nat → Int32), am_call tb_P 1999 151 [.ref 45, .int (nI e), .int (nI l), .int md, .ref 72] (pr_S, h0, hl) = some (some (.int o), (pr_S, hC, hl)) ∧ am_call tb_P 2000 87 [.ref 73, .int (nI e), .int (nI l), .int md] (pr_S, hC, hl) = some (some (.int o), (pr_S, h2, hl)) ∧ iv_I h2 nd nt nn hf sz L bd st B N := by
  obtain ⟨ha, _, Ia, sa1, sa2, ua⟩ := fu_R (hl := hl) 1998 (by omega) I
  obtain ⟨⟨P, PK⟩, ⟨hR, hRm⟩, ⟨hse, hu⟩, stale, ⟨TC, TM⟩, ⟨v1, v2, v3, w, v4⟩, ar, cd, co⟩ := id I
  have p1 := P.1
  have p4 := P.2.2.2.1
  have p7 : h0 73 7 = nI hf := P.2.2.2.2.2.2.1
  have K0 : rn_K h0 ha (2900 * hf) nd nt nn hf sz L bd st md := ⟨P, rfl, fun c q1 q2 => sa1 c (by omega) (by unfold pg_c at q1; omega) (by unfold pg_c at q1; omega) (by unfold pg_c at q1; omega), (sa2 7 (by decide)).trans p7, PK, hm, fun m t ht => ua (u m) t ht⟩
  obtain ⟨hC, _, o, R0, x1, _⟩ := ex_pair (hl := hl) (lim := l) 1990 e (nI l) md K0 he (fun j hj => by rw [sa1 104 (by decide) (by decide) (by decide) (by decide)]; exact ar j hj) hl4
  have oC : ∀ c, c < 45 ∨ 71 < c → hC c = h0 c := R0.1
  have oP : ∀ c, 19 ≤ c → c ≤ 30 → hC c = h0 c := fun c a b => oC c (by omega)
  have P' := pgk (hj := hC) (fun c hc => oC c (by unfold pg_c at hc; omega)) (by rw [oC _ (by decide)]) ⟨P, PK⟩
  obtain ⟨hb, cb, sb1, sb2, sb3, sb4⟩ := em_findUses (hl := hl) (R := h0 36) 1997 (by omega) P'.1 hR (by rw [oC 97 (by decide), oC 98 (by decide)]; exact hRm)
  have K1 : rn_K h0 hb (2900 * hf) nd nt nn hf sz L bd st md := ⟨P, rfl, fun c q1 q2 => by rw [sb1 c (by omega) (by unfold pg_c at q1; omega) (by unfold pg_c at q1; omega) (by unfold pg_c at q1; omega), oC c (by omega)], by rw [sb2 7 (by decide), oC _ (by decide)]; exact p7, PK, hm, fun m t ht => us_u P ht (u m t ht) (us_Pj (fun c a b => (oP c a b).symm) (sb3 t ht))⟩
  obtain ⟨hC', h2, o', R1, x1', x2⟩ := ex_pair (hl := hl) (lim := l) 1990 e (nI l) md K1 he (fun j hj => by rw [sb1 104 (by decide) (by decide) (by decide) (by decide), oC 104 (by decide)]; exact ar j hj) hl4
  have E := Option.some.inj (x1.symm.trans x1')
  have eo : o = o' := Value.int.inj (Option.some.inj (Prod.mk.inj E).1)
  have eh : hC = hC' := (Prod.mk.inj (Prod.mk.inj (Prod.mk.inj E).2).2).1
  subst eo
  subst eh
  obtain ⟨r1, r2, r3, r4, r5, r6⟩ := R1
  have h7 : hC 73 7 = nI hf := by rw [oC _ (by decide)]; exact p7
  have hh : ¬ am_bad (hC 73 7) 2 := by rw [h7]; exact nI_in p4 (by decide)
  have md0 : hC 85 (hC 73 7).toNatClampNeg = nI nd := by rw [h7, nI_clamp (by omega), oC _ (by decide)]; exact P.2.2.2.2.2.2.2.1
  have isD : am_call tb_P (1997 + 1) 48 [.ref 73, .int (nI e)] (pr_S, hC, hl) = some (some (.int 1), (pr_S, hC, hl)) := by
    rw [em_isDef 1997 (nI e) hC hl hh, md0, if_pos ⟨nI_pos (by omega), nI_lt he (by omega)⟩]
  have m0 : ¬ md < 0 := by rcases hm with rfl | rfl | rfl | rfl <;> decide
  have m3 : md ≤ 3 := by rcases hm with rfl | rfl | rfl | rfl <;> decide
  have l0 : ¬ nI l < 0 := nI_pos (by omega)
  have l1 : ¬ (10000 : Int32) < nI l := nI_nlt (a := 10000) (b := l) hl4 (by decide)
  have fg := em_forget 1997 hb hl
  have call : am_call tb_P (1998 + 1) 87 [.ref 73, .int (nI e), .int (nI l), .int md] (pr_S, hC, hl) = some (some (.int o), (pr_S, h2, hl)) := by
    rw [en_87, ht_87_0, ch_87_0, isD, ev_rs, ch_87_1, if_pos (by decide), ht_87_1, ch_87_2, if_neg l0, if_neg l1, if_neg m0, if_pos m3, sk_87_2_33, ht_87_3, ch_87_4, cb, ev_rn, ch_87_5, fg, ev_rn, ch_87_6]
    exact x2
  have o2 : ∀ c, c < 105 → c ≠ 73 → c ≠ 99 → c ≠ 100 → c ≠ 101 → h2 c = hC c := fun c a1 a2 a3 a4 a5 => by rw [r2 c a1 a2, sb1 c a2 a3 a4 a5]
  refine ⟨hC, o, h2, x1, mo_d (d' := 2000) (by omega) call, iv_k I (fun c a1 a2 a3 a4 a5 a6 a7 a8 a9 b1 b2 => by rw [o2 c b2 a5 a6 a7 a8, oC c a4]) (fun y a b => by rw [r3 y b, sb2 y a, oC _ (by decide)]) (by rw [o2 41 (by decide) (by decide) (by decide) (by decide) (by decide), oC 41 (by decide)]; exact hse) (by rw [r2 101 (by decide) (by decide)]; exact sb4) (stl (fun c a b => by rw [o2 c (by omega) (by omega) (by omega) (by omega) (by omega), oP c a b]) (by rw [o2 _ (by decide) (by decide) (by decide) (by decide) (by decide), oC _ (by decide)]) (by rw [o2 _ (by decide) (by decide) (by decide) (by decide) (by decide), oC _ (by decide)]) (by rw [o2 _ (by decide) (by decide) (by decide) (by decide) (by decide), oC _ (by decide)]) stale) (by rw [o2 _ (by decide) (by decide) (by decide) (by decide) (by decide), r6]) (fun t ht => by rw [o2 _ (by decide) (by decide) (by decide) (by decide) (by decide)]; exact r5 t ht) (fun k hk => by rw [o2 _ (by decide) (by decide) (by decide) (by decide) (by decide)]; exact (r4 k hk).symm)⟩
theorem md_n {x : Int32} (h0 : ¬ x < 0) (h3 : x ≤ 3) : x = 0 ∨ x = 1 ∨ x = 2 ∨ x = 3 := by
  obtain ⟨j, hj, rfl⟩ := nI_of h0
  have : j ≤ 3 := (nI_leI hj (by decide)).mp h3
  rcases (by omega : j = 0 ∨ j = 1 ∨ j = 2 ∨ j = 3) with rfl | rfl | rfl | rfl
  · exact Or.inl rfl
  · exact Or.inr (Or.inl rfl)
  · exact Or.inr (Or.inr (Or.inl rfl))
  · exact Or.inr (Or.inr (Or.inr rfl))
theorem pb_run (a lim md : Int32) : pq 11 87 [.int a, .int lim, .int md] := fun hi hl ⟨nd, nt, nn, hf, sz, L, bd, st, B, N, I⟩ => by
  obtain ⟨⟨P, PK⟩, ⟨hR, hRm⟩, ⟨hse, hu⟩, stale, ⟨TC, TM⟩, ⟨v1, v2, v3, w, v4⟩, ar, cd, co⟩ := id I
  obtain ⟨p1, p2, p3, p4, p5, p6, p7, p8, p9, p10, p11, p12, p13, p14⟩ := id P
  have hh : ¬ am_bad (hi 73 7) 2 := by rw [p7]; exact nI_in p4 (by decide)
  have d1 := ea_isDef 1998 a hi hl
  have d2 := em_isDef 1998 a hi hl hh
  rw [p7, nI_clamp (by omega), p8] at d2
  rw [p5] at d1
  have d1' : am_call tb_P 1999 15 [.ref 0, .int a] (pr_S, hi, hl) = some (some (.int (if ¬ a < 0 ∧ a < nI nd then 1 else 0)), (pr_S, hi, hl)) := d1
  have d2' : am_call tb_P 1999 48 [.ref 73, .int a] (pr_S, hi, hl) = some (some (.int (if ¬ a < 0 ∧ a < nI nd then 1 else 0)), (pr_S, hi, hl)) := d2
  have KEEP : ∀ (r : Int32), am_call tb_P (1999 + 1) 11 [.ref 0, .int a, .int lim, .int md] (pr_S, hi, hl) = some (some (.int r), (pr_S, hi, hl)) → am_call tb_P (1999 + 1) 87 [.ref 73, .int a, .int lim, .int md] (pr_S, hi, hl) = some (some (.int r), (pr_S, hi, hl)) → ∃ (r : Int32) (hi1 : Nat → Nat → Int32) (hl1 : Nat → Nat → Int64) (hi2 : Nat → Nat → Int32) (hl2 : Nat → Nat → Int64), am_call tb_P 2000 11 (.ref 0 :: [.int a, .int lim, .int md]) (pr_S, hi, hl) = some (some (.int r), (pr_S, hi1, hl1)) ∧ am_call tb_P 2000 87 (.ref 73 :: [.int a, .int lim, .int md]) (pr_S, hi1, hl1) = some (some (.int r), (pr_S, hi2, hl2)) ∧ iv_X hi2 hl2 := fun r q1 q2 => ⟨r, hi, hl, hi, hl, q1, q2, nd, nt, nn, hf, sz, L, bd, st, B, N, I⟩
  rcases lk_def (x := a) (nd := nd) (by omega) with na | ⟨e, he, rfl⟩
  · rw [if_neg na] at d1' d2'
    refine KEEP (-1) ?_ ?_
    · rw [en_11, ht_11_0, ch_11_0, d1', ev_rs, ch_11_1, if_neg (fun q => q rfl)]
    · rw [en_87, ht_87_0, ch_87_0, d2', ev_rs, ch_87_1, if_neg (fun q => q rfl)]
  · have ia : ¬ nI e < 0 ∧ nI e < nI nd := ⟨nI_pos (by omega), nI_lt he (by omega)⟩
    rw [if_pos ia] at d1' d2'
    by_cases l0 : lim < 0
    · refine KEEP (-2) ?_ ?_
      · rw [en_11, ht_11_0, ch_11_0, d1', ev_rs, ch_11_1, if_pos (by decide), ht_11_1, ch_11_2, if_pos l0, ht_11_2, ch_11_3]
      · rw [en_87, ht_87_0, ch_87_0, d2', ev_rs, ch_87_1, if_pos (by decide), ht_87_1, ch_87_2, if_pos l0, ht_87_2, ch_87_3]
    by_cases l1 : (10000 : Int32) < lim
    · refine KEEP (-2) ?_ ?_
      · rw [en_11, ht_11_0, ch_11_0, d1', ev_rs, ch_11_1, if_pos (by decide), ht_11_1, ch_11_2, if_neg l0, if_pos l1, ht_11_2, ch_11_3]
      · rw [en_87, ht_87_0, ch_87_0, d2', ev_rs, ch_87_1, if_pos (by decide), ht_87_1, ch_87_2, if_neg l0, if_pos l1, ht_87_2, ch_87_3]
    by_cases m0 : md < 0
    · refine KEEP (-2) ?_ ?_
      · rw [en_11, ht_11_0, ch_11_0, d1', ev_rs, ch_11_1, if_pos (by decide), ht_11_1, ch_11_2, if_neg l0, if_neg l1, if_pos m0, ht_11_2, ch_11_3]
      · rw [en_87, ht_87_0, ch_87_0, d2', ev_rs, ch_87_1, if_pos (by decide), ht_87_1, ch_87_2, if_neg l0, if_neg l1, if_pos m0, ht_87_2, ch_87_3]
    by_cases m3 : md ≤ 3
    · obtain ⟨l, hl0, rfl⟩ := nI_of l0
      have l4 : l ≤ 10000 := by
        rcases Nat.lt_or_ge 10000 l with q | q
        · exact absurd (nI_lt (a := 10000) q hl0) l1
        · exact q
      have hm := md_n m0 m3
      by_cases z : md = 0
      · obtain ⟨hC, o, h2, x1, x2, I2⟩ := rz_end (hl := hl) (md := md) (e := e) (l := l) I (fun q => absurd z q) he l4 hm
        refine ⟨o, hC, hl, h2, hl, ?_, x2, nd, nt, nn, hf, sz, L, bd, st, B, N, I2⟩
        show am_call tb_P (1999 + 1) _ _ _ = _
        rw [en_11, ht_11_0, ch_11_0, d1', ev_rs, ch_11_1, if_pos (by decide), ht_11_1, ch_11_2, if_neg l0, if_neg l1, if_neg m0, if_pos m3, sk_11_2_33, ht_11_3, ch_11_4, if_pos z, ht_11_4, ch_11_5, x1, ev_rs, ch_11_7]
      · obtain ⟨h1, c1, I1, u1⟩ := rf_R (hl := hl) 1992 I
        have c1' : am_call tb_P 1999 220 [.ref 35] (pr_S, hi, hl) = some (none, (pr_S, h1, hl)) := c1
        obtain ⟨hC, o, h2, x1, x2, I2⟩ := rz_end (hl := hl) (md := md) (e := e) (l := l) I1 (fun _ => u1) he l4 hm
        refine ⟨o, hC, hl, h2, hl, ?_, x2, nd, nt, nn, hf, sz, L, bd, st, B, N, I2⟩
        show am_call tb_P (1999 + 1) _ _ _ = _
        rw [en_11, ht_11_0, ch_11_0, d1', ev_rs, ch_11_1, if_pos (by decide), ht_11_1, ch_11_2, if_neg l0, if_neg l1, if_neg m0, if_pos m3, sk_11_2_33, ht_11_3, ch_11_4, if_neg z, c1', ev_rn, ch_11_6, ht_11_4, ch_11_5, x1, ev_rs, ch_11_7]
    · refine KEEP (-2) ?_ ?_
      · rw [en_11, ht_11_0, ch_11_0, d1', ev_rs, ch_11_1, if_pos (by decide), ht_11_1, ch_11_2, if_neg l0, if_neg l1, if_neg m0, if_neg m3, ht_11_2, ch_11_3]
      · rw [en_87, ht_87_0, ch_87_0, d2', ev_rs, ch_87_1, if_pos (by decide), ht_87_1, ch_87_2, if_neg l0, if_neg l1, if_neg m0, if_neg m3, ht_87_2, ch_87_3]
end PB
