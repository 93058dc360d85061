/-! a round of the reference -/
theorem uk_inj : ∀ a ∈ us_codes, ∀ b ∈ us_codes, uk_c a = uk_c b → uk_d a = uk_d b → a = b := by decide +kernel
def mr_h (h : Nat → Nat → Int32) (f : Nat → Int32) (j i : Nat) : Nat → Nat → Int32 := fun c x => if c = 102 ∧ j ≤ x ∧ x < j + i then uk_c (f x) else if c = 103 ∧ j ≤ x ∧ x < j + i then uk_d (f x) else h c x
theorem mr_0 (h : Nat → Nat → Int32) (f : Nat → Int32) (j : Nat) : mr_h h f j 0 = h := by
  funext c x
  unfold mr_h
  rw [if_neg (by omega), if_neg (by omega)]
theorem mr_1 (h : Nat → Nat → Int32) (f : Nat → Int32) (j i : Nat) : am_si (am_si (mr_h h f j i) 102 (j + i) (uk_c (f (j + i)))) 103 (j + i) (uk_d (f (j + i))) = mr_h h f j (i + 1) := by
  funext c x
  unfold am_si mr_h
  by_cases c1 : c = 103
  · rw [if_pos c1]
    by_cases c2 : x = j + i
    · rw [if_pos c2, if_neg (by omega), if_pos (by omega), c2]
    · rw [if_neg c2, if_neg (show ¬ c = 102 by omega), if_neg (show ¬ (c = 102 ∧ j ≤ x ∧ x < j + i) by omega), if_neg (show ¬ (c = 102 ∧ j ≤ x ∧ x < j + (i + 1)) by omega)]
      by_cases c3 : c = 103 ∧ j ≤ x ∧ x < j + i
      · rw [if_pos c3, if_pos (by omega)]
      · rw [if_neg c3, if_neg (by omega)]
  · rw [if_neg c1]
    by_cases c0 : c = 102
    · rw [if_pos c0]
      by_cases c2 : x = j + i
      · rw [if_pos c2, if_pos (by omega), c2]
      · rw [if_neg c2]
        by_cases c3 : c = 102 ∧ j ≤ x ∧ x < j + i
        · rw [if_pos c3, if_pos (by omega)]
        · rw [if_neg c3, if_neg (by omega), if_neg (by omega), if_neg (by omega)]
    · rw [if_neg c0, if_neg (by omega), if_neg (by omega), if_neg (by omega), if_neg (by omega)]
theorem mr_c {h : Nat → Nat → Int32} {f : Nat → Int32} {j i c : Nat} (h1 : c ≠ 102) (h2 : c ≠ 103) : mr_h h f j i c = h c := by
  funext x
  unfold mr_h
  rw [if_neg (fun e => h1 e.1), if_neg (fun e => h2 e.1)]
def nx_r (hi : Nat → Nat → Int32) (R : Nat → Int32) (L bd : Nat → Nat) (e u i : Nat) : Int32 := us_either (R (8 * e + 4 * u + i)) (ft (hi 26) (hi 27) (hi 28) (hi 29) (hi 30) (hi 20) R 4000 (bd e) (rd_D u) (L e + i))
section PG
variable {hi : Nat → Nat → Int32} {hl : Nat → Nat → Int64} {nd nt nn hf : Nat} {sz L bd st : Nat → Nat}
/-- the first that changes, in the midst of r -/
def mr_F (c : Nat → Prop) (s : Nat → Prop) (r : Nat) (x : Int32) : Prop := (fc_R c r x ∧ x ≠ -1) ∨ (x = -1 ∧ (∀ q, q < r → ¬ c q) ∧ ∀ q, s q) ∨ (x = nI r ∧ c r ∧ ∀ q, q < r → ¬ c q)
theorem mr_in (d e u Lo w : Nat) (h : Nat → Nat → Int32) (X R : Nat → Int32) (c : Nat → Prop) (Q : Int32 → (Nat → Nat → Int32) → Prop) (he : e < 24) (hu : u < 2) (hw : w ≤ 4) (hLo : Lo + w ≤ 200) (hf2 : hf < 2) (g7 : h 73 7 = nI hf) (gs : h 90 (24 * hf + e) = nI w) (gl : h 89 (24 * hf + e) = nI Lo) (hR : ∀ i, R i ∈ us_codes) (hX : ∀ t, t < 200 → X t ∈ us_codes) (hRm : ∀ i, i < 192 → h 97 i = uk_c (R i) ∧ h 98 i = uk_d (R i)) (hXm : ∀ t, t < 200 → h 99 t = uk_c (X t) ∧ h 100 t = uk_d (X t)) (hc : c (2 * e + u) ↔ ∃ i, i < w ∧ R (8 * e + 4 * u + i) ≠ us_either (R (8 * e + 4 * u + i)) (X (Lo + i))) (n2 : Nat)
    (k : ∀ x1, fc_R c (2 * e + u + 1) x1 → ∃ x h', am_fwd (am_call tb_P (d + 1)) (am_run (am_call tb_P (d + 1)) tb_r63_0 n2) tb_r63_2 19 [(3, .int (nI (u + 1))), (2, .int (nI e)), (1, .int x1), (0, .ref 73)] [] (pr_S, mr_h h (fun x => us_either (R x) (X (Lo + (x - (8 * e + 4 * u))))) (8 * e + 4 * u) w, hl) = some (some (.int x), (pr_S, h', hl)) ∧ Q x h') : ∀ (q i n : Nat) (x1 : Int32), i + q = w → n2 + q + 1 ≤ n → mr_F c (fun j => j < i → R (8 * e + 4 * u + j) = us_either (R (8 * e + 4 * u + j)) (X (Lo + j))) (2 * e + u) x1 →
    ∃ x h', am_fwd (am_call tb_P (d + 1)) (am_run (am_call tb_P (d + 1)) tb_r63_0 n) tb_r63_3 61 [(5, .int (nI i)), (4, .int (nI 0)), (3, .int (nI u)), (2, .int (nI e)), (1, .int x1), (0, .ref 73)] [] (pr_S, mr_h h (fun x => us_either (R x) (X (Lo + (x - (8 * e + 4 * u))))) (8 * e + 4 * u) i, hl) = some (some (.int x), (pr_S, h', hl)) ∧ Q x h' := by
  intro q
  have G7 : ∀ i, mr_h h (fun x => us_either (R x) (X (Lo + (x - (8 * e + 4 * u))))) (8 * e + 4 * u) i 73 7 = nI hf := fun i => by rw [mr_c (by decide) (by decide)]; exact g7
  have Gs : ∀ i, mr_h h (fun x => us_either (R x) (X (Lo + (x - (8 * e + 4 * u))))) (8 * e + 4 * u) i 90 (24 * hf + e) = nI w := fun i => by rw [mr_c (by decide) (by decide)]; exact gs
  have Gl : ∀ i, mr_h h (fun x => us_either (R x) (X (Lo + (x - (8 * e + 4 * u))))) (8 * e + 4 * u) i 89 (24 * hf + e) = nI Lo := fun i => by rw [mr_c (by decide) (by decide)]; exact gl
  induction q with
  | zero =>
    intro i n x1 h1 h2 h3
    obtain ⟨n, rfl⟩ : ∃ n', n = n' + 1 := ⟨n - 1, by omega⟩
    have e1 : i = w := by omega
    subst e1
    obtain ⟨x, h', m1, m2⟩ := k x1 (by
      rcases h3 with ⟨a, b⟩ | ⟨a, b, b2⟩ | ⟨a, b, b2⟩
      · rcases a with ⟨a1, a2⟩ | ⟨r, a1, a2, a3, a4⟩
        · exact absurd a1 b
        · exact Or.inr ⟨r, by omega, a2, a3, a4⟩
      · refine Or.inl ⟨a, fun r hr => ?_⟩
        by_cases z : r < 2 * e + u
        · exact b r z
        · rw [show r = 2 * e + u by omega, hc]
          exact fun ⟨j, y1, y2⟩ => y2 (b2 j y1)
      · exact Or.inr ⟨2 * e + u, by omega, a, b, b2⟩)
    refine ⟨x, h', ?_, m2⟩
    rw [ht_63_3, ch_63_9]; (try simp +decide (disch := omega) only [ni_bF, nI_clamp, nI_add, pk_mul, dc_ltT, dc_ltF, dc_leT, dc_leF, dc_eqF, dc_neT, dn_eq, dn_ne, dn_lt, dn_ge, si_at, si_c, si_k, q_at_nI, q_put_nI, ne_eq, not_false_eq_true, not_true_eq_false, ↓reduceIte, v0_ltT, v0_ltF, v0_gtT, v0_gtF, v0_leT, v0_leF, v0_geT, v0_geF, v0_eqT, v0_eqF, v0_add, v0_dda, v0_mul, v0_lum, v0_sub, v0_bad, v0_cl, v4_ltT, v4_ltF, v4_gtT, v4_gtF, v4_leT, v4_leF, v4_geT, v4_geF, v4_eqT, v4_eqF, v4_add, v4_dda, v4_mul, v4_lum, v4_sub, v4_bad, v4_cl, v8_ltT, v8_ltF, v8_gtT, v8_gtF, v8_leT, v8_leF, v8_geT, v8_geF, v8_eqT, v8_eqF, v8_add, v8_dda, v8_mul, v8_lum, v8_sub, v8_bad, v8_cl, v24_ltT, v24_ltF, v24_gtT, v24_gtF, v24_leT, v24_leF, v24_geT, v24_geF, v24_eqT, v24_eqF, v24_add, v24_dda, v24_mul, v24_lum, v24_sub, v24_bad, v24_cl, G7, Gs, Gl]); rw [sk_63_4_244, ht_63_8, ch_63_10]; (try simp +decide (disch := omega) only [ni_bF, nI_clamp, nI_add, pk_mul, dc_ltT, dc_ltF, dc_leT, dc_leF, dc_eqF, dc_neT, dn_eq, dn_ne, dn_lt, dn_ge, si_at, si_c, si_k, q_at_nI, q_put_nI, ne_eq, not_false_eq_true, not_true_eq_false, ↓reduceIte, v0_ltT, v0_ltF, v0_gtT, v0_gtF, v0_leT, v0_leF, v0_geT, v0_geF, v0_eqT, v0_eqF, v0_add, v0_dda, v0_mul, v0_lum, v0_sub, v0_bad, v0_cl, v1_ltT, v1_ltF, v1_gtT, v1_gtF, v1_leT, v1_leF, v1_geT, v1_geF, v1_eqT, v1_eqF, v1_add, v1_dda, v1_mul, v1_lum, v1_sub, v1_bad, v1_cl, G7, Gs, Gl]); rw [sk_63_9_19, lp_63_19]
    exact mo_f (by omega) (by repeat (first | exact trivial | refine And.intro rfl ?_)) rfl m1
  | succ q ih =>
    intro i n x1 h1 h2 h3
    obtain ⟨n, rfl⟩ : ∃ n', n = n' + 1 := ⟨n - 1, by omega⟩
    have cR := hR (8 * e + 4 * u + i)
    have cX := hX (Lo + i) (by omega)
    have p := us_either_md _ cR _ cX
    have b1 : mr_h h (fun x => us_either (R x) (X (Lo + (x - (8 * e + 4 * u))))) (8 * e + 4 * u) i 97 (8 * e + 4 * u + i) = uk_c (R (8 * e + 4 * u + i)) := by rw [mr_c (by decide) (by decide)]; exact (hRm _ (by omega)).1
    have b2 : mr_h h (fun x => us_either (R x) (X (Lo + (x - (8 * e + 4 * u))))) (8 * e + 4 * u) i 98 (8 * e + 4 * u + i) = uk_d (R (8 * e + 4 * u + i)) := by rw [mr_c (by decide) (by decide)]; exact (hRm _ (by omega)).2
    have b3 : mr_h h (fun x => us_either (R x) (X (Lo + (x - (8 * e + 4 * u))))) (8 * e + 4 * u) i 99 (0 + Lo + i) = uk_c (X (Lo + i)) := by rw [mr_c (by decide) (by decide), Nat.zero_add]; exact (hXm _ (by omega)).1
    have b4 : mr_h h (fun x => us_either (R x) (X (Lo + (x - (8 * e + 4 * u))))) (8 * e + 4 * u) i 100 (0 + Lo + i) = uk_d (X (Lo + i)) := by rw [mr_c (by decide) (by decide), Nat.zero_add]; exact (hXm _ (by omega)).2
    have s1 := mr_1 h (fun x => us_either (R x) (X (Lo + (x - (8 * e + 4 * u))))) (8 * e + 4 * u) i
    simp only [Nat.add_sub_cancel_left] at s1
    have e7 := G7 i
    have es := Gs i
    have el := Gl i
    -- what first becomes
    have nx : ∀ x1', (x1' = if x1 = -1 ∧ ¬ R (8 * e + 4 * u + i) = us_either (R (8 * e + 4 * u + i)) (X (Lo + i)) then nI (2 * e + u) else x1) → mr_F c (fun j => j < i + 1 → R (8 * e + 4 * u + j) = us_either (R (8 * e + 4 * u + j)) (X (Lo + j))) (2 * e + u) x1' := by
      intro x1' hx
      rcases h3 with ⟨a, b⟩ | ⟨a, b, b2⟩ | ⟨a, b, b2⟩
      · rw [if_neg (fun z => b z.1)] at hx
        rw [hx]; exact Or.inl ⟨a, b⟩
      · by_cases z : R (8 * e + 4 * u + i) = us_either (R (8 * e + 4 * u + i)) (X (Lo + i))
        · rw [if_neg (fun y => y.2 z)] at hx
          rw [hx]
          refine Or.inr (Or.inl ⟨a, b, fun j hj => ?_⟩)
          by_cases y : j = i
          · rw [y]; exact z
          · exact b2 j (by omega)
        · rw [if_pos ⟨a, z⟩] at hx
          rw [hx]
          exact Or.inr (Or.inr ⟨rfl, hc.mpr ⟨i, by omega, z⟩, b⟩)
      · have : x1 ≠ -1 := by rw [a]; exact fun z => by rw [nl_m1 (by omega)] at z; exact z
        rw [if_neg (fun z => this z.1)] at hx
        rw [hx]; exact Or.inr (Or.inr ⟨a, b, b2⟩)
    by_cases z : R (8 * e + 4 * u + i) = us_either (R (8 * e + 4 * u + i)) (X (Lo + i))
    · obtain ⟨x, h', m1, m2⟩ := ih (i + 1) n x1 (by omega) (by omega) (nx x1 (if_neg (fun y => y.2 z)).symm)
      refine ⟨x, h', ?_, m2⟩
      have z1 := congrArg uk_c z
      have z2 := congrArg uk_d z
      by_cases o1 : x1 = -1
      · rw [ht_63_3, ch_63_9]; (try simp +decide (disch := omega) only [ni_bF, nI_clamp, nI_add, pk_mul, dc_ltT, dc_ltF, dc_leT, dc_leF, dc_eqF, dc_neT, dn_eq, dn_ne, dn_lt, dn_ge, si_at, si_c, si_k, q_at_nI, q_put_nI, ne_eq, not_false_eq_true, not_true_eq_false, ↓reduceIte, v0_ltT, v0_ltF, v0_gtT, v0_gtF, v0_leT, v0_leF, v0_geT, v0_geF, v0_eqT, v0_eqF, v0_add, v0_dda, v0_mul, v0_lum, v0_sub, v0_bad, v0_cl, v4_ltT, v4_ltF, v4_gtT, v4_gtF, v4_leT, v4_leF, v4_geT, v4_geF, v4_eqT, v4_eqF, v4_add, v4_dda, v4_mul, v4_lum, v4_sub, v4_bad, v4_cl, v8_ltT, v8_ltF, v8_gtT, v8_gtF, v8_leT, v8_leF, v8_geT, v8_geF, v8_eqT, v8_eqF, v8_add, v8_dda, v8_mul, v8_lum, v8_sub, v8_bad, v8_cl, v24_ltT, v24_ltF, v24_gtT, v24_gtF, v24_leT, v24_leF, v24_geT, v24_geF, v24_eqT, v24_eqF, v24_add, v24_dda, v24_mul, v24_lum, v24_sub, v24_bad, v24_cl, e7, es, el, b1, b2, b3, b4]); rw [ch_63_11]; (try simp +decide (disch := omega) only [ni_bF, nI_clamp, nI_add, pk_mul, dc_ltT, dc_ltF, dc_leT, dc_leF, dc_eqF, dc_neT, dn_eq, dn_ne, dn_lt, dn_ge, si_at, si_c, si_k, q_at_nI, q_put_nI, ne_eq, not_false_eq_true, not_true_eq_false, ↓reduceIte, v0_ltT, v0_ltF, v0_gtT, v0_gtF, v0_leT, v0_leF, v0_geT, v0_geF, v0_eqT, v0_eqF, v0_add, v0_dda, v0_mul, v0_lum, v0_sub, v0_bad, v0_cl, e7, es, el, b1, b2, b3, b4]); rw [p.1, em_eitherDemand _ _ _ _ _ _ _, p.2, ev_rs, ch_63_13]; (try simp +decide (disch := omega) only [ni_bF, nI_clamp, nI_add, pk_mul, dc_ltT, dc_ltF, dc_leT, dc_leF, dc_eqF, dc_neT, dn_eq, dn_ne, dn_lt, dn_ge, si_at, si_c, si_k, q_at_nI, q_put_nI, ne_eq, not_false_eq_true, not_true_eq_false, ↓reduceIte, v0_ltT, v0_ltF, v0_gtT, v0_gtF, v0_leT, v0_leF, v0_geT, v0_geF, v0_eqT, v0_eqF, v0_add, v0_dda, v0_mul, v0_lum, v0_sub, v0_bad, v0_cl, e7, es, el, b1, b2, b3, b4]); rw [if_neg (fun y => y z1.symm), if_neg (fun y => y z2.symm), sk_63_4_216, ht_63_5, ch_63_17]; (try simp +decide (disch := omega) only [ni_bF, nI_clamp, nI_add, pk_mul, dc_ltT, dc_ltF, dc_leT, dc_leF, dc_eqF, dc_neT, dn_eq, dn_ne, dn_lt, dn_ge, si_at, si_c, si_k, q_at_nI, q_put_nI, ne_eq, not_false_eq_true, not_true_eq_false, ↓reduceIte, v0_ltT, v0_ltF, v0_gtT, v0_gtF, v0_leT, v0_leF, v0_geT, v0_geF, v0_eqT, v0_eqF, v0_add, v0_dda, v0_mul, v0_lum, v0_sub, v0_bad, v0_cl, v2_ltT, v2_ltF, v2_gtT, v2_gtF, v2_leT, v2_leF, v2_geT, v2_geF, v2_eqT, v2_eqF, v2_add, v2_dda, v2_mul, v2_lum, v2_sub, v2_bad, v2_cl, e7, es, el, b1, b2, b3, b4]); rw [if_neg (fun y => y o1), ht_63_6, ch_63_20, ht_63_7, ch_63_21]; (try simp +decide (disch := omega) only [ni_bF, nI_clamp, nI_add, pk_mul, dc_ltT, dc_ltF, dc_leT, dc_leF, dc_eqF, dc_neT, dn_eq, dn_ne, dn_lt, dn_ge, si_at, si_c, si_k, q_at_nI, q_put_nI, ne_eq, not_false_eq_true, not_true_eq_false, ↓reduceIte, v0_ltT, v0_ltF, v0_gtT, v0_gtF, v0_leT, v0_leF, v0_geT, v0_geF, v0_eqT, v0_eqF, v0_add, v0_dda, v0_mul, v0_lum, v0_sub, v0_bad, v0_cl, v1_ltT, v1_ltF, v1_gtT, v1_gtF, v1_leT, v1_leF, v1_geT, v1_geF, v1_eqT, v1_eqF, v1_add, v1_dda, v1_mul, v1_lum, v1_sub, v1_bad, v1_cl, e7, es, el, b1, b2, b3, b4]); rw [sk_63_8_61, s1, lp_63_61]
        exact mo_f (Nat.le_refl _) (by repeat (first | exact trivial | refine And.intro rfl ?_)) rfl m1
      · rw [ht_63_3, ch_63_9]; (try simp +decide (disch := omega) only [ni_bF, nI_clamp, nI_add, pk_mul, dc_ltT, dc_ltF, dc_leT, dc_leF, dc_eqF, dc_neT, dn_eq, dn_ne, dn_lt, dn_ge, si_at, si_c, si_k, q_at_nI, q_put_nI, ne_eq, not_false_eq_true, not_true_eq_false, ↓reduceIte, v0_ltT, v0_ltF, v0_gtT, v0_gtF, v0_leT, v0_leF, v0_geT, v0_geF, v0_eqT, v0_eqF, v0_add, v0_dda, v0_mul, v0_lum, v0_sub, v0_bad, v0_cl, v4_ltT, v4_ltF, v4_gtT, v4_gtF, v4_leT, v4_leF, v4_geT, v4_geF, v4_eqT, v4_eqF, v4_add, v4_dda, v4_mul, v4_lum, v4_sub, v4_bad, v4_cl, v8_ltT, v8_ltF, v8_gtT, v8_gtF, v8_leT, v8_leF, v8_geT, v8_geF, v8_eqT, v8_eqF, v8_add, v8_dda, v8_mul, v8_lum, v8_sub, v8_bad, v8_cl, v24_ltT, v24_ltF, v24_gtT, v24_gtF, v24_leT, v24_leF, v24_geT, v24_geF, v24_eqT, v24_eqF, v24_add, v24_dda, v24_mul, v24_lum, v24_sub, v24_bad, v24_cl, e7, es, el, b1, b2, b3, b4]); rw [ch_63_11]; (try simp +decide (disch := omega) only [ni_bF, nI_clamp, nI_add, pk_mul, dc_ltT, dc_ltF, dc_leT, dc_leF, dc_eqF, dc_neT, dn_eq, dn_ne, dn_lt, dn_ge, si_at, si_c, si_k, q_at_nI, q_put_nI, ne_eq, not_false_eq_true, not_true_eq_false, ↓reduceIte, v0_ltT, v0_ltF, v0_gtT, v0_gtF, v0_leT, v0_leF, v0_geT, v0_geF, v0_eqT, v0_eqF, v0_add, v0_dda, v0_mul, v0_lum, v0_sub, v0_bad, v0_cl, e7, es, el, b1, b2, b3, b4]); rw [p.1, em_eitherDemand _ _ _ _ _ _ _, p.2, ev_rs, ch_63_13]; (try simp +decide (disch := omega) only [ni_bF, nI_clamp, nI_add, pk_mul, dc_ltT, dc_ltF, dc_leT, dc_leF, dc_eqF, dc_neT, dn_eq, dn_ne, dn_lt, dn_ge, si_at, si_c, si_k, q_at_nI, q_put_nI, ne_eq, not_false_eq_true, not_true_eq_false, ↓reduceIte, v0_ltT, v0_ltF, v0_gtT, v0_gtF, v0_leT, v0_leF, v0_geT, v0_geF, v0_eqT, v0_eqF, v0_add, v0_dda, v0_mul, v0_lum, v0_sub, v0_bad, v0_cl, e7, es, el, b1, b2, b3, b4]); rw [if_neg (fun y => y z1.symm), if_neg (fun y => y z2.symm), sk_63_4_216, ht_63_5, ch_63_17]; (try simp +decide (disch := omega) only [ni_bF, nI_clamp, nI_add, pk_mul, dc_ltT, dc_ltF, dc_leT, dc_leF, dc_eqF, dc_neT, dn_eq, dn_ne, dn_lt, dn_ge, si_at, si_c, si_k, q_at_nI, q_put_nI, ne_eq, not_false_eq_true, not_true_eq_false, ↓reduceIte, v0_ltT, v0_ltF, v0_gtT, v0_gtF, v0_leT, v0_leF, v0_geT, v0_geF, v0_eqT, v0_eqF, v0_add, v0_dda, v0_mul, v0_lum, v0_sub, v0_bad, v0_cl, v2_ltT, v2_ltF, v2_gtT, v2_gtF, v2_leT, v2_leF, v2_geT, v2_geF, v2_eqT, v2_eqF, v2_add, v2_dda, v2_mul, v2_lum, v2_sub, v2_bad, v2_cl, e7, es, el, b1, b2, b3, b4]); rw [if_pos o1, ht_63_6, ch_63_20, ht_63_7, ch_63_21]; (try simp +decide (disch := omega) only [ni_bF, nI_clamp, nI_add, pk_mul, dc_ltT, dc_ltF, dc_leT, dc_leF, dc_eqF, dc_neT, dn_eq, dn_ne, dn_lt, dn_ge, si_at, si_c, si_k, q_at_nI, q_put_nI, ne_eq, not_false_eq_true, not_true_eq_false, ↓reduceIte, v0_ltT, v0_ltF, v0_gtT, v0_gtF, v0_leT, v0_leF, v0_geT, v0_geF, v0_eqT, v0_eqF, v0_add, v0_dda, v0_mul, v0_lum, v0_sub, v0_bad, v0_cl, v1_ltT, v1_ltF, v1_gtT, v1_gtF, v1_leT, v1_leF, v1_geT, v1_geF, v1_eqT, v1_eqF, v1_add, v1_dda, v1_mul, v1_lum, v1_sub, v1_bad, v1_cl, e7, es, el, b1, b2, b3, b4]); rw [sk_63_8_61, s1, lp_63_61]
        exact mo_f (Nat.le_refl _) (by repeat (first | exact trivial | refine And.intro rfl ?_)) rfl m1
    · have zi := us_either_in _ cR _ cX
      by_cases z1 : uk_c (us_either (R (8 * e + 4 * u + i)) (X (Lo + i))) = uk_c (R (8 * e + 4 * u + i))
      · have z2 : uk_d (us_either (R (8 * e + 4 * u + i)) (X (Lo + i))) ≠ uk_d (R (8 * e + 4 * u + i)) := fun y => z (uk_inj _ cR _ zi z1.symm y.symm)
        by_cases o1 : x1 = -1
        · obtain ⟨x, h', m1, m2⟩ := ih (i + 1) n (nI (2 * e + u)) (by omega) (by omega) (nx _ (if_pos ⟨o1, z⟩).symm)
          refine ⟨x, h', ?_, m2⟩
          rw [ht_63_3, ch_63_9]; (try simp +decide (disch := omega) only [ni_bF, nI_clamp, nI_add, pk_mul, dc_ltT, dc_ltF, dc_leT, dc_leF, dc_eqF, dc_neT, dn_eq, dn_ne, dn_lt, dn_ge, si_at, si_c, si_k, q_at_nI, q_put_nI, ne_eq, not_false_eq_true, not_true_eq_false, ↓reduceIte, v0_ltT, v0_ltF, v0_gtT, v0_gtF, v0_leT, v0_leF, v0_geT, v0_geF, v0_eqT, v0_eqF, v0_add, v0_dda, v0_mul, v0_lum, v0_sub, v0_bad, v0_cl, v4_ltT, v4_ltF, v4_gtT, v4_gtF, v4_leT, v4_leF, v4_geT, v4_geF, v4_eqT, v4_eqF, v4_add, v4_dda, v4_mul, v4_lum, v4_sub, v4_bad, v4_cl, v8_ltT, v8_ltF, v8_gtT, v8_gtF, v8_leT, v8_leF, v8_geT, v8_geF, v8_eqT, v8_eqF, v8_add, v8_dda, v8_mul, v8_lum, v8_sub, v8_bad, v8_cl, v24_ltT, v24_ltF, v24_gtT, v24_gtF, v24_leT, v24_leF, v24_geT, v24_geF, v24_eqT, v24_eqF, v24_add, v24_dda, v24_mul, v24_lum, v24_sub, v24_bad, v24_cl, e7, es, el, b1, b2, b3, b4]); rw [ch_63_11]; (try simp +decide (disch := omega) only [ni_bF, nI_clamp, nI_add, pk_mul, dc_ltT, dc_ltF, dc_leT, dc_leF, dc_eqF, dc_neT, dn_eq, dn_ne, dn_lt, dn_ge, si_at, si_c, si_k, q_at_nI, q_put_nI, ne_eq, not_false_eq_true, not_true_eq_false, ↓reduceIte, v0_ltT, v0_ltF, v0_gtT, v0_gtF, v0_leT, v0_leF, v0_geT, v0_geF, v0_eqT, v0_eqF, v0_add, v0_dda, v0_mul, v0_lum, v0_sub, v0_bad, v0_cl, e7, es, el, b1, b2, b3, b4]); rw [p.1, em_eitherDemand _ _ _ _ _ _ _, p.2, ev_rs, ch_63_13]; (try simp +decide (disch := omega) only [ni_bF, nI_clamp, nI_add, pk_mul, dc_ltT, dc_ltF, dc_leT, dc_leF, dc_eqF, dc_neT, dn_eq, dn_ne, dn_lt, dn_ge, si_at, si_c, si_k, q_at_nI, q_put_nI, ne_eq, not_false_eq_true, not_true_eq_false, ↓reduceIte, v0_ltT, v0_ltF, v0_gtT, v0_gtF, v0_leT, v0_leF, v0_geT, v0_geF, v0_eqT, v0_eqF, v0_add, v0_dda, v0_mul, v0_lum, v0_sub, v0_bad, v0_cl, e7, es, el, b1, b2, b3, b4]); rw [if_neg (fun y => y z1), if_pos z2, ht_63_4, ch_63_16, ht_63_5, ch_63_17]; (try simp +decide (disch := omega) only [ni_bF, nI_clamp, nI_add, pk_mul, dc_ltT, dc_ltF, dc_leT, dc_leF, dc_eqF, dc_neT, dn_eq, dn_ne, dn_lt, dn_ge, si_at, si_c, si_k, q_at_nI, q_put_nI, ne_eq, not_false_eq_true, not_true_eq_false, ↓reduceIte, v0_ltT, v0_ltF, v0_gtT, v0_gtF, v0_leT, v0_leF, v0_geT, v0_geF, v0_eqT, v0_eqF, v0_add, v0_dda, v0_mul, v0_lum, v0_sub, v0_bad, v0_cl, v2_ltT, v2_ltF, v2_gtT, v2_gtF, v2_leT, v2_leF, v2_geT, v2_geF, v2_eqT, v2_eqF, v2_add, v2_dda, v2_mul, v2_lum, v2_sub, v2_bad, v2_cl, e7, es, el, b1, b2, b3, b4]); rw [if_neg (fun y => y o1), sk_63_6_237, ht_63_7, ch_63_21]; (try simp +decide (disch := omega) only [ni_bF, nI_clamp, nI_add, pk_mul, dc_ltT, dc_ltF, dc_leT, dc_leF, dc_eqF, dc_neT, dn_eq, dn_ne, dn_lt, dn_ge, si_at, si_c, si_k, q_at_nI, q_put_nI, ne_eq, not_false_eq_true, not_true_eq_false, ↓reduceIte, v0_ltT, v0_ltF, v0_gtT, v0_gtF, v0_leT, v0_leF, v0_geT, v0_geF, v0_eqT, v0_eqF, v0_add, v0_dda, v0_mul, v0_lum, v0_sub, v0_bad, v0_cl, v1_ltT, v1_ltF, v1_gtT, v1_gtF, v1_leT, v1_leF, v1_geT, v1_geF, v1_eqT, v1_eqF, v1_add, v1_dda, v1_mul, v1_lum, v1_sub, v1_bad, v1_cl, e7, es, el, b1, b2, b3, b4]); rw [sk_63_8_61, s1, lp_63_61]
          exact mo_f (Nat.le_refl _) (by repeat (first | exact trivial | refine And.intro rfl ?_)) rfl m1
        · obtain ⟨x, h', m1, m2⟩ := ih (i + 1) n x1 (by omega) (by omega) (nx _ (if_neg (fun y => o1 y.1)).symm)
          refine ⟨x, h', ?_, m2⟩
          rw [ht_63_3, ch_63_9]; (try simp +decide (disch := omega) only [ni_bF, nI_clamp, nI_add, pk_mul, dc_ltT, dc_ltF, dc_leT, dc_leF, dc_eqF, dc_neT, dn_eq, dn_ne, dn_lt, dn_ge, si_at, si_c, si_k, q_at_nI, q_put_nI, ne_eq, not_false_eq_true, not_true_eq_false, ↓reduceIte, v0_ltT, v0_ltF, v0_gtT, v0_gtF, v0_leT, v0_leF, v0_geT, v0_geF, v0_eqT, v0_eqF, v0_add, v0_dda, v0_mul, v0_lum, v0_sub, v0_bad, v0_cl, v4_ltT, v4_ltF, v4_gtT, v4_gtF, v4_leT, v4_leF, v4_geT, v4_geF, v4_eqT, v4_eqF, v4_add, v4_dda, v4_mul, v4_lum, v4_sub, v4_bad, v4_cl, v8_ltT, v8_ltF, v8_gtT, v8_gtF, v8_leT, v8_leF, v8_geT, v8_geF, v8_eqT, v8_eqF, v8_add, v8_dda, v8_mul, v8_lum, v8_sub, v8_bad, v8_cl, v24_ltT, v24_ltF, v24_gtT, v24_gtF, v24_leT, v24_leF, v24_geT, v24_geF, v24_eqT, v24_eqF, v24_add, v24_dda, v24_mul, v24_lum, v24_sub, v24_bad, v24_cl, e7, es, el, b1, b2, b3, b4]); rw [ch_63_11]; (try simp +decide (disch := omega) only [ni_bF, nI_clamp, nI_add, pk_mul, dc_ltT, dc_ltF, dc_leT, dc_leF, dc_eqF, dc_neT, dn_eq, dn_ne, dn_lt, dn_ge, si_at, si_c, si_k, q_at_nI, q_put_nI, ne_eq, not_false_eq_true, not_true_eq_false, ↓reduceIte, v0_ltT, v0_ltF, v0_gtT, v0_gtF, v0_leT, v0_leF, v0_geT, v0_geF, v0_eqT, v0_eqF, v0_add, v0_dda, v0_mul, v0_lum, v0_sub, v0_bad, v0_cl, e7, es, el, b1, b2, b3, b4]); rw [p.1, em_eitherDemand _ _ _ _ _ _ _, p.2, ev_rs, ch_63_13]; (try simp +decide (disch := omega) only [ni_bF, nI_clamp, nI_add, pk_mul, dc_ltT, dc_ltF, dc_leT, dc_leF, dc_eqF, dc_neT, dn_eq, dn_ne, dn_lt, dn_ge, si_at, si_c, si_k, q_at_nI, q_put_nI, ne_eq, not_false_eq_true, not_true_eq_false, ↓reduceIte, v0_ltT, v0_ltF, v0_gtT, v0_gtF, v0_leT, v0_leF, v0_geT, v0_geF, v0_eqT, v0_eqF, v0_add, v0_dda, v0_mul, v0_lum, v0_sub, v0_bad, v0_cl, e7, es, el, b1, b2, b3, b4]); rw [if_neg (fun y => y z1), if_pos z2, ht_63_4, ch_63_16, ht_63_5, ch_63_17]; (try simp +decide (disch := omega) only [ni_bF, nI_clamp, nI_add, pk_mul, dc_ltT, dc_ltF, dc_leT, dc_leF, dc_eqF, dc_neT, dn_eq, dn_ne, dn_lt, dn_ge, si_at, si_c, si_k, q_at_nI, q_put_nI, ne_eq, not_false_eq_true, not_true_eq_false, ↓reduceIte, v0_ltT, v0_ltF, v0_gtT, v0_gtF, v0_leT, v0_leF, v0_geT, v0_geF, v0_eqT, v0_eqF, v0_add, v0_dda, v0_mul, v0_lum, v0_sub, v0_bad, v0_cl, v2_ltT, v2_ltF, v2_gtT, v2_gtF, v2_leT, v2_leF, v2_geT, v2_geF, v2_eqT, v2_eqF, v2_add, v2_dda, v2_mul, v2_lum, v2_sub, v2_bad, v2_cl, e7, es, el, b1, b2, b3, b4]); rw [if_pos o1, ht_63_6, ch_63_20, ht_63_7, ch_63_21]; (try simp +decide (disch := omega) only [ni_bF, nI_clamp, nI_add, pk_mul, dc_ltT, dc_ltF, dc_leT, dc_leF, dc_eqF, dc_neT, dn_eq, dn_ne, dn_lt, dn_ge, si_at, si_c, si_k, q_at_nI, q_put_nI, ne_eq, not_false_eq_true, not_true_eq_false, ↓reduceIte, v0_ltT, v0_ltF, v0_gtT, v0_gtF, v0_leT, v0_leF, v0_geT, v0_geF, v0_eqT, v0_eqF, v0_add, v0_dda, v0_mul, v0_lum, v0_sub, v0_bad, v0_cl, v1_ltT, v1_ltF, v1_gtT, v1_gtF, v1_leT, v1_leF, v1_geT, v1_geF, v1_eqT, v1_eqF, v1_add, v1_dda, v1_mul, v1_lum, v1_sub, v1_bad, v1_cl, e7, es, el, b1, b2, b3, b4]); rw [sk_63_8_61, s1, lp_63_61]
          exact mo_f (Nat.le_refl _) (by repeat (first | exact trivial | refine And.intro rfl ?_)) rfl m1
      · by_cases o1 : x1 = -1
        · obtain ⟨x, h', m1, m2⟩ := ih (i + 1) n (nI (2 * e + u)) (by omega) (by omega) (nx _ (if_pos ⟨o1, z⟩).symm)
          refine ⟨x, h', ?_, m2⟩
          rw [ht_63_3, ch_63_9]; (try simp +decide (disch := omega) only [ni_bF, nI_clamp, nI_add, pk_mul, dc_ltT, dc_ltF, dc_leT, dc_leF, dc_eqF, dc_neT, dn_eq, dn_ne, dn_lt, dn_ge, si_at, si_c, si_k, q_at_nI, q_put_nI, ne_eq, not_false_eq_true, not_true_eq_false, ↓reduceIte, v0_ltT, v0_ltF, v0_gtT, v0_gtF, v0_leT, v0_leF, v0_geT, v0_geF, v0_eqT, v0_eqF, v0_add, v0_dda, v0_mul, v0_lum, v0_sub, v0_bad, v0_cl, v4_ltT, v4_ltF, v4_gtT, v4_gtF, v4_leT, v4_leF, v4_geT, v4_geF, v4_eqT, v4_eqF, v4_add, v4_dda, v4_mul, v4_lum, v4_sub, v4_bad, v4_cl, v8_ltT, v8_ltF, v8_gtT, v8_gtF, v8_leT, v8_leF, v8_geT, v8_geF, v8_eqT, v8_eqF, v8_add, v8_dda, v8_mul, v8_lum, v8_sub, v8_bad, v8_cl, v24_ltT, v24_ltF, v24_gtT, v24_gtF, v24_leT, v24_leF, v24_geT, v24_geF, v24_eqT, v24_eqF, v24_add, v24_dda, v24_mul, v24_lum, v24_sub, v24_bad, v24_cl, e7, es, el, b1, b2, b3, b4]); rw [ch_63_11]; (try simp +decide (disch := omega) only [ni_bF, nI_clamp, nI_add, pk_mul, dc_ltT, dc_ltF, dc_leT, dc_leF, dc_eqF, dc_neT, dn_eq, dn_ne, dn_lt, dn_ge, si_at, si_c, si_k, q_at_nI, q_put_nI, ne_eq, not_false_eq_true, not_true_eq_false, ↓reduceIte, v0_ltT, v0_ltF, v0_gtT, v0_gtF, v0_leT, v0_leF, v0_geT, v0_geF, v0_eqT, v0_eqF, v0_add, v0_dda, v0_mul, v0_lum, v0_sub, v0_bad, v0_cl, e7, es, el, b1, b2, b3, b4]); rw [p.1, em_eitherDemand _ _ _ _ _ _ _, p.2, ev_rs, ch_63_13]; (try simp +decide (disch := omega) only [ni_bF, nI_clamp, nI_add, pk_mul, dc_ltT, dc_ltF, dc_leT, dc_leF, dc_eqF, dc_neT, dn_eq, dn_ne, dn_lt, dn_ge, si_at, si_c, si_k, q_at_nI, q_put_nI, ne_eq, not_false_eq_true, not_true_eq_false, ↓reduceIte, v0_ltT, v0_ltF, v0_gtT, v0_gtF, v0_leT, v0_leF, v0_geT, v0_geF, v0_eqT, v0_eqF, v0_add, v0_dda, v0_mul, v0_lum, v0_sub, v0_bad, v0_cl, e7, es, el, b1, b2, b3, b4]); rw [if_pos z1, ht_63_4, ch_63_16, ht_63_5, ch_63_17]; (try simp +decide (disch := omega) only [ni_bF, nI_clamp, nI_add, pk_mul, dc_ltT, dc_ltF, dc_leT, dc_leF, dc_eqF, dc_neT, dn_eq, dn_ne, dn_lt, dn_ge, si_at, si_c, si_k, q_at_nI, q_put_nI, ne_eq, not_false_eq_true, not_true_eq_false, ↓reduceIte, v0_ltT, v0_ltF, v0_gtT, v0_gtF, v0_leT, v0_leF, v0_geT, v0_geF, v0_eqT, v0_eqF, v0_add, v0_dda, v0_mul, v0_lum, v0_sub, v0_bad, v0_cl, v2_ltT, v2_ltF, v2_gtT, v2_gtF, v2_leT, v2_leF, v2_geT, v2_geF, v2_eqT, v2_eqF, v2_add, v2_dda, v2_mul, v2_lum, v2_sub, v2_bad, v2_cl, e7, es, el, b1, b2, b3, b4]); rw [if_neg (fun y => y o1), sk_63_6_237, ht_63_7, ch_63_21]; (try simp +decide (disch := omega) only [ni_bF, nI_clamp, nI_add, pk_mul, dc_ltT, dc_ltF, dc_leT, dc_leF, dc_eqF, dc_neT, dn_eq, dn_ne, dn_lt, dn_ge, si_at, si_c, si_k, q_at_nI, q_put_nI, ne_eq, not_false_eq_true, not_true_eq_false, ↓reduceIte, v0_ltT, v0_ltF, v0_gtT, v0_gtF, v0_leT, v0_leF, v0_geT, v0_geF, v0_eqT, v0_eqF, v0_add, v0_dda, v0_mul, v0_lum, v0_sub, v0_bad, v0_cl, v1_ltT, v1_ltF, v1_gtT, v1_gtF, v1_leT, v1_leF, v1_geT, v1_geF, v1_eqT, v1_eqF, v1_add, v1_dda, v1_mul, v1_lum, v1_sub, v1_bad, v1_cl, e7, es, el, b1, b2, b3, b4]); rw [sk_63_8_61, s1, lp_63_61]
          exact mo_f (Nat.le_refl _) (by repeat (first | exact trivial | refine And.intro rfl ?_)) rfl m1
        · obtain ⟨x, h', m1, m2⟩ := ih (i + 1) n x1 (by omega) (by omega) (nx _ (if_neg (fun y => o1 y.1)).symm)
          refine ⟨x, h', ?_, m2⟩
          rw [ht_63_3, ch_63_9]; (try simp +decide (disch := omega) only [ni_bF, nI_clamp, nI_add, pk_mul, dc_ltT, dc_ltF, dc_leT, dc_leF, dc_eqF, dc_neT, dn_eq, dn_ne, dn_lt, dn_ge, si_at, si_c, si_k, q_at_nI, q_put_nI, ne_eq, not_false_eq_true, not_true_eq_false, ↓reduceIte, v0_ltT, v0_ltF, v0_gtT, v0_gtF, v0_leT, v0_leF, v0_geT, v0_geF, v0_eqT, v0_eqF, v0_add, v0_dda, v0_mul, v0_lum, v0_sub, v0_bad, v0_cl, v4_ltT, v4_ltF, v4_gtT, v4_gtF, v4_leT, v4_leF, v4_geT, v4_geF, v4_eqT, v4_eqF, v4_add, v4_dda, v4_mul, v4_lum, v4_sub, v4_bad, v4_cl, v8_ltT, v8_ltF, v8_gtT, v8_gtF, v8_leT, v8_leF, v8_geT, v8_geF, v8_eqT, v8_eqF, v8_add, v8_dda, v8_mul, v8_lum, v8_sub, v8_bad, v8_cl, v24_ltT, v24_ltF, v24_gtT, v24_gtF, v24_leT, v24_leF, v24_geT, v24_geF, v24_eqT, v24_eqF, v24_add, v24_dda, v24_mul, v24_lum, v24_sub, v24_bad, v24_cl, e7, es, el, b1, b2, b3, b4]); rw [ch_63_11]; (try simp +decide (disch := omega) only [ni_bF, nI_clamp, nI_add, pk_mul, dc_ltT, dc_ltF, dc_leT, dc_leF, dc_eqF, dc_neT, dn_eq, dn_ne, dn_lt, dn_ge, si_at, si_c, si_k, q_at_nI, q_put_nI, ne_eq, not_false_eq_true, not_true_eq_false, ↓reduceIte, v0_ltT, v0_ltF, v0_gtT, v0_gtF, v0_leT, v0_leF, v0_geT, v0_geF, v0_eqT, v0_eqF, v0_add, v0_dda, v0_mul, v0_lum, v0_sub, v0_bad, v0_cl, e7, es, el, b1, b2, b3, b4]); rw [p.1, em_eitherDemand _ _ _ _ _ _ _, p.2, ev_rs, ch_63_13]; (try simp +decide (disch := omega) only [ni_bF, nI_clamp, nI_add, pk_mul, dc_ltT, dc_ltF, dc_leT, dc_leF, dc_eqF, dc_neT, dn_eq, dn_ne, dn_lt, dn_ge, si_at, si_c, si_k, q_at_nI, q_put_nI, ne_eq, not_false_eq_true, not_true_eq_false, ↓reduceIte, v0_ltT, v0_ltF, v0_gtT, v0_gtF, v0_leT, v0_leF, v0_geT, v0_geF, v0_eqT, v0_eqF, v0_add, v0_dda, v0_mul, v0_lum, v0_sub, v0_bad, v0_cl, e7, es, el, b1, b2, b3, b4]); rw [if_pos z1, ht_63_4, ch_63_16, ht_63_5, ch_63_17]; (try simp +decide (disch := omega) only [ni_bF, nI_clamp, nI_add, pk_mul, dc_ltT, dc_ltF, dc_leT, dc_leF, dc_eqF, dc_neT, dn_eq, dn_ne, dn_lt, dn_ge, si_at, si_c, si_k, q_at_nI, q_put_nI, ne_eq, not_false_eq_true, not_true_eq_false, ↓reduceIte, v0_ltT, v0_ltF, v0_gtT, v0_gtF, v0_leT, v0_leF, v0_geT, v0_geF, v0_eqT, v0_eqF, v0_add, v0_dda, v0_mul, v0_lum, v0_sub, v0_bad, v0_cl, v2_ltT, v2_ltF, v2_gtT, v2_gtF, v2_leT, v2_leF, v2_geT, v2_geF, v2_eqT, v2_eqF, v2_add, v2_dda, v2_mul, v2_lum, v2_sub, v2_bad, v2_cl, e7, es, el, b1, b2, b3, b4]); rw [if_pos o1, ht_63_6, ch_63_20, ht_63_7, ch_63_21]; (try simp +decide (disch := omega) only [ni_bF, nI_clamp, nI_add, pk_mul, dc_ltT, dc_ltF, dc_leT, dc_leF, dc_eqF, dc_neT, dn_eq, dn_ne, dn_lt, dn_ge, si_at, si_c, si_k, q_at_nI, q_put_nI, ne_eq, not_false_eq_true, not_true_eq_false, ↓reduceIte, v0_ltT, v0_ltF, v0_gtT, v0_gtF, v0_leT, v0_leF, v0_geT, v0_geF, v0_eqT, v0_eqF, v0_add, v0_dda, v0_mul, v0_lum, v0_sub, v0_bad, v0_cl, v1_ltT, v1_ltF, v1_gtT, v1_gtF, v1_leT, v1_leF, v1_geT, v1_geF, v1_eqT, v1_eqF, v1_add, v1_dda, v1_mul, v1_lum, v1_sub, v1_bad, v1_cl, e7, es, el, b1, b2, b3, b4]); rw [sk_63_8_61, s1, lp_63_61]
          exact mo_f (Nat.le_refl _) (by repeat (first | exact trivial | refine And.intro rfl ?_)) rfl m1
/-- the reference's heap when r ROWS are foretold -/
def mr_S (hi h : Nat → Nat → Int32) (R : Nat → Int32) (nd : Nat) (sz L bd : Nat → Nat) (r : Nat) : Prop := (∀ c, c ≠ 73 → c ≠ 99 → c ≠ 100 → c ≠ 101 → c ≠ 102 → c ≠ 103 → h c = hi c) ∧ (∀ x, x ≠ 39 → h 73 x = hi 73 x) ∧ (∀ e u i, e < nd → u < 2 → i < sz e → 2 * e + u < r → h 102 (8 * e + 4 * u + i) = uk_c (nx_r hi R L bd e u i) ∧ h 103 (8 * e + 4 * u + i) = uk_d (nx_r hi R L bd e u i)) ∧ (∀ t, t < 200 → h 101 t ∈ ([0, 1, 2] : List Int32))
def rd_C (hi : Nat → Nat → Int32) (R : Nat → Int32) (sz L bd : Nat → Nat) (r : Nat) : Prop := ∃ i, i < sz (r / 2) ∧ R (8 * (r / 2) + 4 * (r % 2) + i) ≠ nx_r hi R L bd (r / 2) (r % 2) i
theorem mr_step (R : Nat → Int32) (d : Nat) (hd : 1300 ≤ d) (P : pg_I hi nd nt nn hf sz L bd st) (hR : ∀ i, R i ∈ us_codes) (hRm : ∀ i, i < 192 → hi 97 i = uk_c (R i) ∧ hi 98 i = uk_d (R i)) (r n2 n : Nat) (h : Nat → Nat → Int32) (x1 : Int32) (Q : Int32 → (Nat → Nat → Int32) → Prop) (hr : r < 2 * nd) (hn : n2 + 6 ≤ n) (s : mr_S hi h R nd sz L bd r) (hx : fc_R (rd_C hi R sz L bd) r x1) (k : ∀ x1' h2, mr_S hi h2 R nd sz L bd (r + 1) → fc_R (rd_C hi R sz L bd) (r + 1) x1' → ∃ x h', am_fwd (am_call tb_P d) (am_run (am_call tb_P d) tb_r63_0 n2) tb_r63_2 19 [(3, .int (nI (r % 2 + 1))), (2, .int (nI (r / 2))), (1, .int x1'), (0, .ref 73)] [] (pr_S, h2, hl) = some (some (.int x), (pr_S, h', hl)) ∧ Q x h') :
    ∃ x h', am_fwd (am_call tb_P d) (am_run (am_call tb_P d) tb_r63_0 n) tb_r63_2 19 [(3, .int (nI (r % 2))), (2, .int (nI (r / 2))), (1, .int x1), (0, .ref 73)] [] (pr_S, h, hl) = some (some (.int x), (pr_S, h', hl)) ∧ Q x h' := by
  have P0 := P
  obtain ⟨p1, p2, p3, p4, p5, p6, p7, p8, p9, p10, p11, p12, p13, p14⟩ := P
  have he : r / 2 < nd := by omega
  obtain ⟨q1, q2, q3, q4, q5, q6, q7, q8, q9, q10, q11, q14⟩ := p12 (r / 2) he
  have m1 : L (r / 2 + 1) ≤ L nd := pg_mono (sz := sz) (fun d hd => (p12 d hd).2.2.2.2.2.2.2.2.2.1) (by omega) (Nat.le_refl _)
  have Ph : pg_I h nd nt nn hf sz L bd st := pg_fr (fun c hc => s.1 c (by unfold pg_c at hc; omega) (by unfold pg_c at hc; omega) (by unfold pg_c at hc; omega) (by unfold pg_c at hc; omega) (by unfold pg_c at hc; omega) (by unfold pg_c at hc; omega)) (s.2.1 _ (by decide)) P0
  have hRmh : ∀ i, i < 192 → h 97 i = uk_c (R i) ∧ h 98 i = uk_d (R i) := fun i hi' => by rw [s.1 97 (by decide) (by decide) (by decide) (by decide) (by decide) (by decide), s.1 98 (by decide) (by decide) (by decide) (by decide) (by decide) (by decide)]; exact hRm i hi'
  obtain ⟨h1, h2, t1, t2, t3, t4, t5, t6, t7, t8⟩ := mf_def (hl := hl) R d (r / 2) (r % 2) hd Ph he hR hRmh s.2.2.2
  have eF : ft (h 26) (h 27) (h 28) (h 29) (h 30) (h 20) R 4000 (bd (r / 2)) (rd_D (r % 2)) = ft (hi 26) (hi 27) (hi 28) (hi 29) (hi 30) (hi 20) R 4000 (bd (r / 2)) (rd_D (r % 2)) := by
    rw [s.1 26 (by decide) (by decide) (by decide) (by decide) (by decide) (by decide), s.1 27 (by decide) (by decide) (by decide) (by decide) (by decide) (by decide), s.1 28 (by decide) (by decide) (by decide) (by decide) (by decide) (by decide), s.1 29 (by decide) (by decide) (by decide) (by decide) (by decide) (by decide), s.1 30 (by decide) (by decide) (by decide) (by decide) (by decide) (by decide), s.1 20 (by decide) (by decide) (by decide) (by decide) (by decide) (by decide)]
  have gg := ft_okR (R := R) (r / 2) (r % 2) Ph he hR
  rw [eF] at t7 t8 gg
  obtain ⟨d, rfl⟩ : ∃ d', d = d' + 1 := ⟨d - 1, by omega⟩
  have u7 : h2 73 7 = nI hf := by rw [t6 _ (by decide), s.2.1 _ (by decide)]; exact p7
  have us : h2 90 (24 * hf + r / 2) = nI (sz (r / 2)) := by rw [t5 _ (by decide) (by decide) (by decide) (by decide), s.1 _ (by decide) (by decide) (by decide) (by decide) (by decide) (by decide)]; exact q3
  have ul : h2 89 (24 * hf + r / 2) = nI (L (r / 2)) := by rw [t5 _ (by decide) (by decide) (by decide) (by decide), s.1 _ (by decide) (by decide) (by decide) (by decide) (by decide) (by decide)]; exact q6
  have er : 2 * (r / 2) + r % 2 = r := by omega
  have lp := mr_in (hl := hl) d (r / 2) (r % 2) (L (r / 2)) (sz (r / 2)) h2 (ft (hi 26) (hi 27) (hi 28) (hi 29) (hi 30) (hi 20) R 4000 (bd (r / 2)) (rd_D (r % 2))) R (rd_C hi R sz L bd) Q (by omega) (by omega) q2 (by omega) p4 u7 us ul hR (fun t ht => ((gg t).1 ht).1) (fun i hi' => by rw [t5 97 (by decide) (by decide) (by decide) (by decide), t5 98 (by decide) (by decide) (by decide) (by decide), (hRmh i hi').1, (hRmh i hi').2]; exact ⟨rfl, rfl⟩) t7 (by rw [er]; exact Iff.rfl) n2 (by
      intro x1' hx1
      rw [er] at hx1
      refine k x1' _ ⟨fun c z1 z2 z3 z4 z5 z6 => ?_, fun x hx => ?_, fun e u i a1 a2 a3 a4 => ?_, fun t ht => ?_⟩ hx1
      · rw [mr_c z5 z6, t5 c z2 z3 z4 z1]; exact s.1 c z1 z2 z3 z4 z5 z6
      · rw [mr_c (by decide) (by decide), t6 x hx]; exact s.2.1 x hx
      · by_cases c : 2 * e + u = r
        · have ee : r / 2 = e := by omega
          have eu : r % 2 = u := by omega
          rw [ee, eu]
          unfold mr_h
          rw [if_pos (by omega), if_neg (by omega), if_pos (by omega)]
          dsimp only
          rw [Nat.add_sub_cancel_left]
          exact ⟨rfl, rfl⟩
        · have := (p12 e a1).2.1
          unfold mr_h
          rw [if_neg (by omega), if_neg (by omega), if_neg (by omega), if_neg (by omega), t5 102 (by decide) (by decide) (by decide) (by decide), t5 103 (by decide) (by decide) (by decide) (by decide)]
          exact s.2.2.1 e u i a1 a2 a3 (by omega)
      · rw [mr_c (by decide) (by decide), t8 t ht]
        exact us_sn_max _ (s.2.2.2 t ht) _ ((gg _).2 (by omega))) (sz (r / 2)) 0 n x1 (by omega) (by omega) (by
      rw [er]
      rcases hx with ⟨a, b⟩ | ⟨q, a, b, c⟩
      · exact Or.inr (Or.inl ⟨a, b, fun j hj => absurd hj (Nat.not_lt_zero _)⟩)
      · refine Or.inl ⟨Or.inr ⟨q, a, b, c⟩, ?_⟩
        rw [b]; exact fun z => by rw [nl_m1 (by omega)] at z; exact z)
  rw [mr_0] at lp
  obtain ⟨x, h', l1, l2⟩ := lp
  refine ⟨x, h', ?_, l2⟩
  have v7 : h1 73 7 = nI hf := by rw [t3 _ (by decide), s.2.1 _ (by decide)]; exact p7
  have vb : h1 88 (24 * hf + r / 2) = nI (2900 * hf + bd (r / 2)) := by rw [t2 _ (by decide) (by decide) (by decide), s.1 _ (by decide) (by decide) (by decide) (by decide) (by decide) (by decide)]; exact q8
  by_cases c0 : r % 2 = 0
  · have e1 : rd_D (r % 2) = nI (4 * (r % 2)) := by rw [c0]; decide
    rw [e1] at t4
    rw [ht_63_2, ch_63_3]; (try simp +decide (disch := omega) only [ni_bF, nI_clamp, nI_add, pk_mul, dc_ltT, dc_ltF, dc_leT, dc_leF, dc_eqF, dc_neT, dn_eq, dn_ne, dn_lt, dn_ge, si_at, si_c, si_k, q_at_nI, q_put_nI, ne_eq, not_false_eq_true, not_true_eq_false, ↓reduceIte, v0_ltT, v0_ltF, v0_gtT, v0_gtF, v0_leT, v0_leF, v0_geT, v0_geF, v0_eqT, v0_eqF, v0_add, v0_dda, v0_mul, v0_lum, v0_sub, v0_bad, v0_cl, v2_ltT, v2_ltF, v2_gtT, v2_gtF, v2_leT, v2_leF, v2_geT, v2_geF, v2_eqT, v2_eqF, v2_add, v2_dda, v2_mul, v2_lum, v2_sub, v2_bad, v2_cl]); rw [t1, ev_rs, ch_63_5]; (try simp +decide (disch := omega) only [ni_bF, nI_clamp, nI_add, pk_mul, dc_ltT, dc_ltF, dc_leT, dc_leF, dc_eqF, dc_neT, dn_eq, dn_ne, dn_lt, dn_ge, si_at, si_c, si_k, q_at_nI, q_put_nI, ne_eq, not_false_eq_true, not_true_eq_false, ↓reduceIte, v0_ltT, v0_ltF, v0_gtT, v0_gtF, v0_leT, v0_leF, v0_geT, v0_geF, v0_eqT, v0_eqF, v0_add, v0_dda, v0_mul, v0_lum, v0_sub, v0_bad, v0_cl, v4_ltT, v4_ltF, v4_gtT, v4_gtF, v4_leT, v4_leF, v4_geT, v4_geF, v4_eqT, v4_eqF, v4_add, v4_dda, v4_mul, v4_lum, v4_sub, v4_bad, v4_cl, v24_ltT, v24_ltF, v24_gtT, v24_gtF, v24_leT, v24_leF, v24_geT, v24_geF, v24_eqT, v24_eqF, v24_add, v24_dda, v24_mul, v24_lum, v24_sub, v24_bad, v24_cl]); rw [v7]
    simp +decide (disch := omega) only [ni_bF, nI_clamp, nI_add, v24_lum, vb, ↓reduceIte]
    rw [t4, ev_rn]
    rw [ch_63_7]
    exact l1
  · have e1 : rd_D (r % 2) = nI (4 * (r % 2)) := by rw [show r % 2 = 1 by omega]; decide
    rw [e1] at t4
    rw [ht_63_2, ch_63_3]; (try simp +decide (disch := omega) only [ni_bF, nI_clamp, nI_add, pk_mul, dc_ltT, dc_ltF, dc_leT, dc_leF, dc_eqF, dc_neT, dn_eq, dn_ne, dn_lt, dn_ge, si_at, si_c, si_k, q_at_nI, q_put_nI, ne_eq, not_false_eq_true, not_true_eq_false, ↓reduceIte, v0_ltT, v0_ltF, v0_gtT, v0_gtF, v0_leT, v0_leF, v0_geT, v0_geF, v0_eqT, v0_eqF, v0_add, v0_dda, v0_mul, v0_lum, v0_sub, v0_bad, v0_cl, v2_ltT, v2_ltF, v2_gtT, v2_gtF, v2_leT, v2_leF, v2_geT, v2_geF, v2_eqT, v2_eqF, v2_add, v2_dda, v2_mul, v2_lum, v2_sub, v2_bad, v2_cl]); rw [t1, ev_rs, ch_63_5]; (try simp +decide (disch := omega) only [ni_bF, nI_clamp, nI_add, pk_mul, dc_ltT, dc_ltF, dc_leT, dc_leF, dc_eqF, dc_neT, dn_eq, dn_ne, dn_lt, dn_ge, si_at, si_c, si_k, q_at_nI, q_put_nI, ne_eq, not_false_eq_true, not_true_eq_false, ↓reduceIte, v0_ltT, v0_ltF, v0_gtT, v0_gtF, v0_leT, v0_leF, v0_geT, v0_geF, v0_eqT, v0_eqF, v0_add, v0_dda, v0_mul, v0_lum, v0_sub, v0_bad, v0_cl, v4_ltT, v4_ltF, v4_gtT, v4_gtF, v4_leT, v4_leF, v4_geT, v4_geF, v4_eqT, v4_eqF, v4_add, v4_dda, v4_mul, v4_lum, v4_sub, v4_bad, v4_cl, v24_ltT, v24_ltF, v24_gtT, v24_gtF, v24_leT, v24_leF, v24_geT, v24_geF, v24_eqT, v24_eqF, v24_add, v24_dda, v24_mul, v24_lum, v24_sub, v24_bad, v24_cl]); rw [v7]
    simp +decide (disch := omega) only [ni_bF, nI_clamp, nI_add, v24_lum, vb, ↓reduceIte]
    rw [t4, ev_rn]
    rw [ch_63_7]
    exact l1
theorem mr_loop (R : Nat → Int32) (d : Nat) (hd : 1300 ≤ d) (P : pg_I hi nd nt nn hf sz L bd st) (hR : ∀ i, R i ∈ us_codes) (hRm : ∀ i, i < 192 → hi 97 i = uk_c (R i) ∧ hi 98 i = uk_d (R i)) : ∀ (q r n : Nat) (h : Nat → Nat → Int32) (x1 : Int32), r + (q + 1) = 2 * nd → 9 * (q + 1) ≤ n → mr_S hi h R nd sz L bd r → fc_R (rd_C hi R sz L bd) r x1 →
    ∃ x h', am_fwd (am_call tb_P d) (am_run (am_call tb_P d) tb_r63_0 n) tb_r63_2 19 [(3, .int (nI (r % 2))), (2, .int (nI (r / 2))), (1, .int x1), (0, .ref 73)] [] (pr_S, h, hl) = some (some (.int x), (pr_S, h', hl)) ∧ fc_R (rd_C hi R sz L bd) (2 * nd) x ∧ mr_S hi h' R nd sz L bd (2 * nd) := by
  have P0 := P
  obtain ⟨p1, p2, p3, p4, p5, p6, p7, p8, p9, p10, p11, p12, p13, p14⟩ := P
  intro q
  induction q with
  | zero =>
    intro r n h x1 h1 h2 h3 h4
    refine mr_step R d hd P0 hR hRm r 2 n h x1 _ (by omega) (by omega) h3 h4 (fun x1' h' s' f' => ?_)
    rw [show r + 1 = 2 * nd by omega] at s' f'
    refine ⟨x1', h', ?_, f', s'⟩
    have g7 : h' 73 7 = nI hf := by rw [s'.2.1 _ (by decide)]; exact p7
    have gd : h' 85 hf = nI nd := by rw [s'.1 _ (by decide) (by decide) (by decide) (by decide) (by decide) (by decide)]; exact p8
    have e1 : r % 2 + 1 = 2 := by omega
    have e2 : r / 2 + 1 = nd := by omega
    rw [e1]
    rw [ht_63_2, ch_63_3]; (try simp +decide (disch := omega) only [ni_bF, nI_clamp, nI_add, pk_mul, dc_ltT, dc_ltF, dc_leT, dc_leF, dc_eqF, dc_neT, dn_eq, dn_ne, dn_lt, dn_ge, si_at, si_c, si_k, q_at_nI, q_put_nI, ne_eq, not_false_eq_true, not_true_eq_false, ↓reduceIte, v0_ltT, v0_ltF, v0_gtT, v0_gtF, v0_leT, v0_leF, v0_geT, v0_geF, v0_eqT, v0_eqF, v0_add, v0_dda, v0_mul, v0_lum, v0_sub, v0_bad, v0_cl, v2_ltT, v2_ltF, v2_gtT, v2_gtF, v2_leT, v2_leF, v2_geT, v2_geF, v2_eqT, v2_eqF, v2_add, v2_dda, v2_mul, v2_lum, v2_sub, v2_bad, v2_cl]); rw [sk_63_3_250, ht_63_9, ch_63_4]; (try simp +decide (disch := omega) only [ni_bF, nI_clamp, nI_add, pk_mul, dc_ltT, dc_ltF, dc_leT, dc_leF, dc_eqF, dc_neT, dn_eq, dn_ne, dn_lt, dn_ge, si_at, si_c, si_k, q_at_nI, q_put_nI, ne_eq, not_false_eq_true, not_true_eq_false, ↓reduceIte, v0_ltT, v0_ltF, v0_gtT, v0_gtF, v0_leT, v0_leF, v0_geT, v0_geF, v0_eqT, v0_eqF, v0_add, v0_dda, v0_mul, v0_lum, v0_sub, v0_bad, v0_cl, v1_ltT, v1_ltF, v1_gtT, v1_gtF, v1_leT, v1_leF, v1_geT, v1_geF, v1_eqT, v1_eqF, v1_add, v1_dda, v1_mul, v1_lum, v1_sub, v1_bad, v1_cl]); rw [sk_63_10_4, lp_63_4]
    rw [e2]
    rw [ht_63_1, ch_63_6]; (try simp +decide (disch := omega) only [ni_bF, nI_clamp, nI_add, pk_mul, dc_ltT, dc_ltF, dc_leT, dc_leF, dc_eqF, dc_neT, dn_eq, dn_ne, dn_lt, dn_ge, si_at, si_c, si_k, q_at_nI, q_put_nI, ne_eq, not_false_eq_true, not_true_eq_false, ↓reduceIte, v0_ltT, v0_ltF, v0_gtT, v0_gtF, v0_leT, v0_leF, v0_geT, v0_geF, v0_eqT, v0_eqF, v0_add, v0_dda, v0_mul, v0_lum, v0_sub, v0_bad, v0_cl, g7, gd]); rw [sk_63_2_256, ht_63_10, ch_63_8]
  | succ q ih =>
    intro r n h x1 h1 h2 h3 h4
    refine mr_step R d hd P0 hR hRm r (n - 6) n h x1 _ (by omega) (by omega) h3 h4 (fun x1' h' s' f' => ?_)
    by_cases c : r % 2 = 0
    · obtain ⟨x, h2', l1, l2⟩ := ih (r + 1) (n - 6) h' x1' (by omega) (by omega) s' f'
      refine ⟨x, h2', ?_, l2⟩
      rw [show r % 2 + 1 = (r + 1) % 2 by omega, show r / 2 = (r + 1) / 2 by omega]
      exact l1
    · obtain ⟨x, h2', l1, l2⟩ := ih (r + 1) (n - 9) h' x1' (by omega) (by omega) s' f'
      refine ⟨x, h2', ?_, l2⟩
      have g7 : h' 73 7 = nI hf := by rw [s'.2.1 _ (by decide)]; exact p7
      have gd : h' 85 hf = nI nd := by rw [s'.1 _ (by decide) (by decide) (by decide) (by decide) (by decide) (by decide)]; exact p8
      have e1 : r % 2 + 1 = 2 := by omega
      have e2 : r / 2 + 1 = (r + 1) / 2 := by omega
      obtain ⟨n3, hn3⟩ : ∃ n3, n - 6 = n3 + 1 := ⟨n - 7, by omega⟩
      rw [e1, hn3]
      rw [ht_63_2, ch_63_3]; (try simp +decide (disch := omega) only [ni_bF, nI_clamp, nI_add, pk_mul, dc_ltT, dc_ltF, dc_leT, dc_leF, dc_eqF, dc_neT, dn_eq, dn_ne, dn_lt, dn_ge, si_at, si_c, si_k, q_at_nI, q_put_nI, ne_eq, not_false_eq_true, not_true_eq_false, ↓reduceIte, v0_ltT, v0_ltF, v0_gtT, v0_gtF, v0_leT, v0_leF, v0_geT, v0_geF, v0_eqT, v0_eqF, v0_add, v0_dda, v0_mul, v0_lum, v0_sub, v0_bad, v0_cl, v2_ltT, v2_ltF, v2_gtT, v2_gtF, v2_leT, v2_leF, v2_geT, v2_geF, v2_eqT, v2_eqF, v2_add, v2_dda, v2_mul, v2_lum, v2_sub, v2_bad, v2_cl]); rw [sk_63_3_250, ht_63_9, ch_63_4]; (try simp +decide (disch := omega) only [ni_bF, nI_clamp, nI_add, pk_mul, dc_ltT, dc_ltF, dc_leT, dc_leF, dc_eqF, dc_neT, dn_eq, dn_ne, dn_lt, dn_ge, si_at, si_c, si_k, q_at_nI, q_put_nI, ne_eq, not_false_eq_true, not_true_eq_false, ↓reduceIte, v0_ltT, v0_ltF, v0_gtT, v0_gtF, v0_leT, v0_leF, v0_geT, v0_geF, v0_eqT, v0_eqF, v0_add, v0_dda, v0_mul, v0_lum, v0_sub, v0_bad, v0_cl, v1_ltT, v1_ltF, v1_gtT, v1_gtF, v1_leT, v1_leF, v1_geT, v1_geF, v1_eqT, v1_eqF, v1_add, v1_dda, v1_mul, v1_lum, v1_sub, v1_bad, v1_cl]); rw [sk_63_10_4, lp_63_4]
      rw [e2]
      rw [ht_63_1, ch_63_6]; try simp +decide (disch := omega) only [ni_bF, nI_clamp, nI_add, pk_mul, dc_ltT, dc_ltF, dc_leT, dc_leF, dc_eqF, dc_neT, dn_eq, dn_ne, dn_lt, dn_ge, si_at, si_c, si_k, q_at_nI, q_put_nI, ne_eq, not_false_eq_true, not_true_eq_false, ↓reduceIte, v0_ltT, v0_ltF, v0_gtT, v0_gtF, v0_leT, v0_leF, v0_geT, v0_geF, v0_eqT, v0_eqF, v0_add, v0_dda, v0_mul, v0_lum, v0_sub, v0_bad, v0_cl, g7, gd]
      rw [show (r + 1) % 2 = 0 by omega] at l1
      exact mo_f (by omega) (by repeat (first | exact trivial | refine And.intro rfl ?_)) rfl l1
theorem mr_round (R : Nat → Int32) (d : Nat) (hd : 1300 ≤ d) (P : pg_I hi nd nt nn hf sz L bd st) (hR : ∀ i, R i ∈ us_codes) (hRm : ∀ i, i < 192 → hi 97 i = uk_c (R i) ∧ hi 98 i = uk_d (R i)) (hu : ∀ t, t < 200 → hi 101 t ∈ ([0, 1, 2] : List Int32)) :
    ∃ x h', am_call tb_P (d + 1) 63 [.ref 73] (pr_S, hi, hl) = some (some (.int x), (pr_S, h', hl)) ∧ fc_R (rd_C hi R sz L bd) (2 * nd) x ∧ mr_S hi h' R nd sz L bd (2 * nd) := by
  have P0 := P
  obtain ⟨p1, p2, p3, p4, p5, p6, p7, p8, p9, p10, p11, p12, p13, p14⟩ := P
  have s0 : mr_S hi hi R nd sz L bd 0 := ⟨fun _ _ _ _ _ _ _ => rfl, fun _ _ => rfl, fun e u i _ _ _ h => absurd h (Nat.not_lt_zero _), hu⟩
  have f0 : fc_R (rd_C hi R sz L bd) 0 (-1) := Or.inl ⟨rfl, fun r h => absurd h (Nat.not_lt_zero _)⟩
  by_cases c : nd = 0
  · subst c
    refine ⟨-1, hi, ?_, by rw [Nat.mul_zero]; exact f0, by rw [Nat.mul_zero]; exact s0⟩
    rw [en_63, ht_63_0, ch_63_0, ht_63_1, ch_63_1]; (try simp +decide (disch := omega) only [ni_bF, nI_clamp, nI_add, pk_mul, dc_ltT, dc_ltF, dc_leT, dc_leF, dc_eqF, dc_neT, dn_eq, dn_ne, dn_lt, dn_ge, si_at, si_c, si_k, q_at_nI, q_put_nI, ne_eq, not_false_eq_true, not_true_eq_false, ↓reduceIte, v0_ltT, v0_ltF, v0_gtT, v0_gtF, v0_leT, v0_leF, v0_geT, v0_geF, v0_eqT, v0_eqF, v0_add, v0_dda, v0_mul, v0_lum, v0_sub, v0_bad, v0_cl, p7, p8]); rw [sk_63_2_256, ht_63_10, ch_63_2]
  · obtain ⟨x, h', l1, l2⟩ := mr_loop (hl := hl) R d hd P0 hR hRm (2 * nd - 1) 0 999999 hi (-1) (by omega) (by omega) s0 f0
    refine ⟨x, h', ?_, l2⟩
    rw [en_63, ht_63_0, ch_63_0, ht_63_1, ch_63_1]; try simp +decide (disch := omega) only [ni_bF, nI_clamp, nI_add, pk_mul, dc_ltT, dc_ltF, dc_leT, dc_leF, dc_eqF, dc_neT, dn_eq, dn_ne, dn_lt, dn_ge, si_at, si_c, si_k, q_at_nI, q_put_nI, ne_eq, not_false_eq_true, not_true_eq_false, ↓reduceIte, v0_ltT, v0_ltF, v0_gtT, v0_gtF, v0_leT, v0_leF, v0_geT, v0_geF, v0_eqT, v0_eqF, v0_add, v0_dda, v0_mul, v0_lum, v0_sub, v0_bad, v0_cl, p7, p8]
    exact l1
end PG
