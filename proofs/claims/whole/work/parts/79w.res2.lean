/-! both parsers side by side: what the NAMES mean, in the reference -/
section RW
variable {hC hM h : Nat → Nat → Int32} {gC gM : Nat → Nat → Int64} {B : Nat → Nat} {N M rd k o n t w π D e s : Nat} {nam : Nat → Int64} {T : Nat → Int64}
def rv_M (hM : Nat → Nat → Int32) (T : Nat → Int64) (D rd i : Nat) (nam : Nat → Int64) (h : Nat → Nat → Int32) : Prop := (∀ c, c ≠ 73 → c ≠ 80 → h c = hM c) ∧ (∀ x, x ≠ 6 → h 73 x = hM 73 x) ∧ (∀ i', i' < i → hM 79 (2900 * rd + i') = 24 → h 80 (2900 * rd + i') = fs_r (ff T (nam i') D 0)) ∧ (∀ q, (∀ i', i' < i → hM 79 (2900 * rd + i') = 24 → q ≠ 2900 * rd + i') → h 80 q = hM 80 q)
theorem rm_loop (d : Nat) (hD : D ≤ 24) (hrd : rd < 2) (h25 : hM 73 25 = nI rd) (h24 : hM 73 24 = nI n) (h26 : hM 73 26 = 0) (d0 : hM 85 rd = nI D) (hn : n ≤ 2900) (hN : ∀ i, i < n → hM 79 (2900 * rd + i) = 24 → ∃ j, j < 2001 ∧ hM 84 i = nI j ∧ gM 78 j = nam i) : ∀ (m i : Nat), i + m = n → ∀ h, rv_M hM (fun i => gM 91 (24 * rd + i)) D rd i nam h → ∃ h', rv_M hM (fun i => gM 91 (24 * rd + i)) D rd n nam h' ∧ (∀ nn R, m + 980000 ≤ nn → am_fwd (am_call tb_P (d + 1)) (am_run (am_call tb_P (d + 1)) tb_r46_0 980000) tb_r46_5 168 [(1, .int (nI (2900 * rd + n))), (0, .ref 73)] [] (pr_S, h', gM) = some R → am_fwd (am_call tb_P (d + 1)) (am_run (am_call tb_P (d + 1)) tb_r46_0 nn) tb_r46_3 89 [(1, .int (nI (2900 * rd + i))), (0, .ref 73)] [] (pr_S, h, gM) = some R) := by
  have e1 : nI rd * 2900 = nI (2900 * rd) := by rcases (by omega : rd = 0 ∨ rd = 1) with rfl | rfl <;> rfl
  intro m
  induction m with
  | zero =>
    intro i e h S
    obtain rfl : i = n := by omega
    have a25 : h 73 25 = nI rd := by rw [S.2.1 _ (by decide)]; exact h25
    have a24 : h 73 24 = nI i := by rw [S.2.1 _ (by decide)]; exact h24
    refine ⟨h, S, fun nn R hn2 hR => ?_⟩
    rw [ht_46_3, ch_46_5]; (try simp +decide (disch := omega) only [ni_bF, nI_clamp, nI_add, pk_mul, dc_ltT, dc_ltF, dc_leT, dc_leF, dc_eqF, dc_neT, dn_eq, dn_ne, dn_lt, dn_ge, si_at, si_c, si_k, q_at_nI, q_put_nI, ne_eq, not_false_eq_true, not_true_eq_false, ↓reduceIte, v0_ltT, v0_ltF, v0_gtT, v0_gtF, v0_leT, v0_leF, v0_geT, v0_geF, v0_eqT, v0_eqF, v0_add, v0_dda, v0_mul, v0_lum, v0_sub, v0_bad, v0_cl, v24_ltT, v24_ltF, v24_gtT, v24_gtF, v24_leT, v24_leF, v24_geT, v24_geF, v24_eqT, v24_eqF, v24_add, v24_dda, v24_mul, v24_lum, v24_sub, v24_bad, v24_cl, v2900_ltT, v2900_ltF, v2900_gtT, v2900_gtF, v2900_leT, v2900_leF, v2900_geT, v2900_geF, v2900_eqT, v2900_eqF, v2900_add, v2900_dda, v2900_mul, v2900_lum, v2900_sub, v2900_bad, v2900_cl, a25, a24, e1]); rw [sk_46_4_168]
    exact mo_f (by omega) (by repeat (first | exact trivial | refine And.intro rfl ?_)) rfl hR
  | succ m ih =>
    intro i e h S
    obtain ⟨S1, S2, S3, S4⟩ := id S
    have a25 : h 73 25 = nI rd := by rw [S2 _ (by decide)]; exact h25
    have a24 : h 73 24 = nI n := by rw [S2 _ (by decide)]; exact h24
    have a26 : h 73 26 = 0 := by rw [S2 _ (by decide)]; exact h26
    have op : h 79 (2900 * rd + i) = hM 79 (2900 * rd + i) := by rw [S1 _ (by decide) (by decide)]
    have e2 : nI (2900 * rd + i) - nI (2900 * rd) = nI i := by rw [← nI_add, Int32.add_comm, Int32.add_sub_cancel]
    by_cases c : hM 79 (2900 * rd + i) = 24
    · obtain ⟨j, j1, j2, j3⟩ := hN i (by omega) c
      have op2 : h 79 (2900 * rd + i) = 24 := op.trans c
      have nt : h 84 i = nI j := by rw [S1 _ (by decide) (by decide)]; exact j2
      have fm := em_defNamed (hM := am_si h 73 6 (nI j)) (gM := gM) (D := D) (rd := rd) d (nam i) hD hrd (by rw [am_si_off (by decide)]; exact a25) (by rw [am_si_ne (by decide), S1 _ (by decide) (by decide)]; exact d0)
      obtain ⟨h', v1, v2⟩ := ih (i + 1) (by omega) (am_si (am_si h 73 6 (nI j)) 80 (2900 * rd + i) (fs_r (ff (fun i => gM 91 (24 * rd + i)) (nam i) D 0))) ⟨fun c q1 q2 => by rw [am_si_ne q2, am_si_ne q1]; exact S1 c q1 q2, fun x q => by rw [am_si_ne (by decide), am_si_off (by omega)]; exact S2 x q, fun i' q1 q2 => by
          by_cases ee : i' = i
          · subst ee; rw [am_si_at]
          · rw [am_si_off (by omega), am_si_ne (by decide)]; exact S3 i' (by omega) q2, fun q hq => by
          rw [am_si_off (fun z => hq i (by omega) c z.2), am_si_ne (by decide)]
          exact S4 q (fun i' q1 q2 => hq i' (by omega) q2)⟩
      refine ⟨h', v1, fun nn R hn2 hR => ?_⟩
      obtain ⟨q, rfl⟩ : ∃ q, nn = q + 1 := ⟨nn - 1, by omega⟩
      have p := v2 q R (by omega) hR
      rw [ht_46_3, ch_46_5]; (try simp +decide (disch := omega) only [ni_bF, nI_clamp, nI_add, pk_mul, dc_ltT, dc_ltF, dc_leT, dc_leF, dc_eqF, dc_neT, dn_eq, dn_ne, dn_lt, dn_ge, si_at, si_c, si_k, q_at_nI, q_put_nI, ne_eq, not_false_eq_true, not_true_eq_false, ↓reduceIte, v0_ltT, v0_ltF, v0_gtT, v0_gtF, v0_leT, v0_leF, v0_geT, v0_geF, v0_eqT, v0_eqF, v0_add, v0_dda, v0_mul, v0_lum, v0_sub, v0_bad, v0_cl, v24_ltT, v24_ltF, v24_gtT, v24_gtF, v24_leT, v24_leF, v24_geT, v24_geF, v24_eqT, v24_eqF, v24_add, v24_dda, v24_mul, v24_lum, v24_sub, v24_bad, v24_cl, v2900_ltT, v2900_ltF, v2900_gtT, v2900_gtF, v2900_leT, v2900_leF, v2900_geT, v2900_geF, v2900_eqT, v2900_eqF, v2900_add, v2900_dda, v2900_mul, v2900_lum, v2900_sub, v2900_bad, v2900_cl, a25, a24, e1, a26, op2, e2, nt, j3]); rw [fm, ev_rs, ch_46_8]; (try simp +decide (disch := omega) only [ni_bF, nI_clamp, nI_add, pk_mul, dc_ltT, dc_ltF, dc_leT, dc_leF, dc_eqF, dc_neT, dn_eq, dn_ne, dn_lt, dn_ge, si_at, si_c, si_k, q_at_nI, q_put_nI, ne_eq, not_false_eq_true, not_true_eq_false, ↓reduceIte, v0_ltT, v0_ltF, v0_gtT, v0_gtF, v0_leT, v0_leF, v0_geT, v0_geF, v0_eqT, v0_eqF, v0_add, v0_dda, v0_mul, v0_lum, v0_sub, v0_bad, v0_cl, a25, a24, e1, a26, op2, e2, nt, j3]); rw [ht_46_4, ch_46_7]; (try simp +decide (disch := omega) only [ni_bF, nI_clamp, nI_add, pk_mul, dc_ltT, dc_ltF, dc_leT, dc_leF, dc_eqF, dc_neT, dn_eq, dn_ne, dn_lt, dn_ge, si_at, si_c, si_k, q_at_nI, q_put_nI, ne_eq, not_false_eq_true, not_true_eq_false, ↓reduceIte, v0_ltT, v0_ltF, v0_gtT, v0_gtF, v0_leT, v0_leF, v0_geT, v0_geF, v0_eqT, v0_eqF, v0_add, v0_dda, v0_mul, v0_lum, v0_sub, v0_bad, v0_cl, v1_ltT, v1_ltF, v1_gtT, v1_gtF, v1_leT, v1_leF, v1_geT, v1_geF, v1_eqT, v1_eqF, v1_add, v1_dda, v1_mul, v1_lum, v1_sub, v1_bad, v1_cl, a25, a24, e1, a26, op2, e2, nt, j3]); rw [sk_46_5_89, lp_46_89]
      exact mo_f (Nat.le_refl _) (by repeat (first | exact trivial | refine And.intro rfl ?_)) rfl p
    · obtain ⟨h', v1, v2⟩ := ih (i + 1) (by omega) h ⟨S1, S2, fun i' q1 q2 => by
          by_cases ee : i' = i
          · subst ee; exact absurd q2 c
          · exact S3 i' (by omega) q2, fun q hq => S4 q (fun i' q1 q2 => hq i' (by omega) q2)⟩
      refine ⟨h', v1, fun nn R hn2 hR => ?_⟩
      obtain ⟨q, rfl⟩ : ∃ q, nn = q + 1 := ⟨nn - 1, by omega⟩
      have p := v2 q R (by omega) hR
      have op2 : h 79 (2900 * rd + i) ≠ 24 := by rw [op]; exact c
      rw [ht_46_3, ch_46_5]; (try simp +decide (disch := omega) only [ni_bF, nI_clamp, nI_add, pk_mul, dc_ltT, dc_ltF, dc_leT, dc_leF, dc_eqF, dc_neT, dn_eq, dn_ne, dn_lt, dn_ge, si_at, si_c, si_k, q_at_nI, q_put_nI, ne_eq, not_false_eq_true, not_true_eq_false, ↓reduceIte, v0_ltT, v0_ltF, v0_gtT, v0_gtF, v0_leT, v0_leF, v0_geT, v0_geF, v0_eqT, v0_eqF, v0_add, v0_dda, v0_mul, v0_lum, v0_sub, v0_bad, v0_cl, v24_ltT, v24_ltF, v24_gtT, v24_gtF, v24_leT, v24_leF, v24_geT, v24_geF, v24_eqT, v24_eqF, v24_add, v24_dda, v24_mul, v24_lum, v24_sub, v24_bad, v24_cl, v2900_ltT, v2900_ltF, v2900_gtT, v2900_gtF, v2900_leT, v2900_leF, v2900_geT, v2900_geF, v2900_eqT, v2900_eqF, v2900_add, v2900_dda, v2900_mul, v2900_lum, v2900_sub, v2900_bad, v2900_cl, a25, a24, e1, a26]); rw [if_pos op2, ht_46_4, ch_46_7]; (try simp +decide (disch := omega) only [ni_bF, nI_clamp, nI_add, pk_mul, dc_ltT, dc_ltF, dc_leT, dc_leF, dc_eqF, dc_neT, dn_eq, dn_ne, dn_lt, dn_ge, si_at, si_c, si_k, q_at_nI, q_put_nI, ne_eq, not_false_eq_true, not_true_eq_false, ↓reduceIte, v0_ltT, v0_ltF, v0_gtT, v0_gtF, v0_leT, v0_leF, v0_geT, v0_geF, v0_eqT, v0_eqF, v0_add, v0_dda, v0_mul, v0_lum, v0_sub, v0_bad, v0_cl, v1_ltT, v1_ltF, v1_gtT, v1_gtF, v1_leT, v1_leF, v1_geT, v1_geF, v1_eqT, v1_eqF, v1_add, v1_dda, v1_mul, v1_lum, v1_sub, v1_bad, v1_cl, a25, a24, e1, a26]); rw [sk_46_5_89, lp_46_89]
      exact mo_f (Nat.le_refl _) (by repeat (first | exact trivial | refine And.intro rfl ?_)) rfl p
/-- the reference looks for the least token without meaning: a stretch where nothing changes -/
theorem r2_seg (C : am_C) {x1 : Int32} (hrd : rd < 2) (h25 : h 73 25 = nI rd) (h24 : h 73 24 = nI n) (h26 : h 73 26 = 0) (hn : n ≤ 2900) (R : Option Value × am_G) : ∀ (m i nn : Nat), i + m ≤ n → m ≤ nn → (∀ i', i ≤ i' → i' < i + m → h 79 (2900 * rd + i') = 24 → h 80 (2900 * rd + i') ≠ -1 ∨ (x1 ≠ -1 ∧ x1 ≤ h 84 i')) → am_fwd C (am_run C tb_r46_0 (nn - m)) tb_r46_6 179 [(2, .int (nI (2900 * rd + (i + m)))), (1, .int x1), (0, .ref 73)] [] (pr_S, h, gM) = some R → am_fwd C (am_run C tb_r46_0 nn) tb_r46_6 179 [(2, .int (nI (2900 * rd + i))), (1, .int x1), (0, .ref 73)] [] (pr_S, h, gM) = some R := by
  have e1 : nI rd * 2900 = nI (2900 * rd) := by rcases (by omega : rd = 0 ∨ rd = 1) with rfl | rfl <;> rfl
  intro m
  induction m with
  | zero => intro i nn _ _ _ hR; exact hR
  | succ m ih =>
    intro i nn hi hnn H hR
    obtain ⟨q, rfl⟩ : ∃ q, nn = q + 1 := ⟨nn - 1, by omega⟩
    have p := ih (i + 1) q (by omega) (by omega) (fun i' a1 a2 => H i' (by omega) (by omega)) (by rw [show q - m = q + 1 - (m + 1) by omega, show i + 1 + m = i + (m + 1) by omega]; exact hR)
    have e2 : nI (2900 * rd + i) - nI (2900 * rd) = nI i := by rw [← nI_add, Int32.add_comm, Int32.add_sub_cancel]
    by_cases c : h 79 (2900 * rd + i) = 24
    · by_cases c2 : h 80 (2900 * rd + i) = -1
      · obtain ⟨n1, n2⟩ := (H i (Nat.le_refl _) (by omega) c).resolve_left (fun z => z c2)
        rw [ht_46_6, ch_46_9]; (try simp +decide (disch := omega) only [ni_bF, nI_clamp, nI_add, pk_mul, dc_ltT, dc_ltF, dc_leT, dc_leF, dc_eqF, dc_neT, dn_eq, dn_ne, dn_lt, dn_ge, si_at, si_c, si_k, q_at_nI, q_put_nI, ne_eq, not_false_eq_true, not_true_eq_false, ↓reduceIte, v0_ltT, v0_ltF, v0_gtT, v0_gtF, v0_leT, v0_leF, v0_geT, v0_geF, v0_eqT, v0_eqF, v0_add, v0_dda, v0_mul, v0_lum, v0_sub, v0_bad, v0_cl, v24_ltT, v24_ltF, v24_gtT, v24_gtF, v24_leT, v24_leF, v24_geT, v24_geF, v24_eqT, v24_eqF, v24_add, v24_dda, v24_mul, v24_lum, v24_sub, v24_bad, v24_cl, v2900_ltT, v2900_ltF, v2900_gtT, v2900_gtF, v2900_leT, v2900_leF, v2900_geT, v2900_geF, v2900_eqT, v2900_eqF, v2900_add, v2900_dda, v2900_mul, v2900_lum, v2900_sub, v2900_bad, v2900_cl, h25, h24, h26, e1, e2, c]); rw [if_neg (fun z => z c2), if_neg n1, if_pos n2, sk_46_7_252, ht_46_8, ch_46_11]; (try simp +decide (disch := omega) only [ni_bF, nI_clamp, nI_add, pk_mul, dc_ltT, dc_ltF, dc_leT, dc_leF, dc_eqF, dc_neT, dn_eq, dn_ne, dn_lt, dn_ge, si_at, si_c, si_k, q_at_nI, q_put_nI, ne_eq, not_false_eq_true, not_true_eq_false, ↓reduceIte, v0_ltT, v0_ltF, v0_gtT, v0_gtF, v0_leT, v0_leF, v0_geT, v0_geF, v0_eqT, v0_eqF, v0_add, v0_dda, v0_mul, v0_lum, v0_sub, v0_bad, v0_cl, v1_ltT, v1_ltF, v1_gtT, v1_gtF, v1_leT, v1_leF, v1_geT, v1_geF, v1_eqT, v1_eqF, v1_add, v1_dda, v1_mul, v1_lum, v1_sub, v1_bad, v1_cl, h25, h24, h26, e1, e2, c]); rw [sk_46_9_179, lp_46_179]
        exact mo_f (Nat.le_refl _) (by repeat (first | exact trivial | refine And.intro rfl ?_)) rfl p
      · rw [ht_46_6, ch_46_9]; (try simp +decide (disch := omega) only [ni_bF, nI_clamp, nI_add, pk_mul, dc_ltT, dc_ltF, dc_leT, dc_leF, dc_eqF, dc_neT, dn_eq, dn_ne, dn_lt, dn_ge, si_at, si_c, si_k, q_at_nI, q_put_nI, ne_eq, not_false_eq_true, not_true_eq_false, ↓reduceIte, v0_ltT, v0_ltF, v0_gtT, v0_gtF, v0_leT, v0_leF, v0_geT, v0_geF, v0_eqT, v0_eqF, v0_add, v0_dda, v0_mul, v0_lum, v0_sub, v0_bad, v0_cl, v24_ltT, v24_ltF, v24_gtT, v24_gtF, v24_leT, v24_leF, v24_geT, v24_geF, v24_eqT, v24_eqF, v24_add, v24_dda, v24_mul, v24_lum, v24_sub, v24_bad, v24_cl, v2900_ltT, v2900_ltF, v2900_gtT, v2900_gtF, v2900_leT, v2900_leF, v2900_geT, v2900_geF, v2900_eqT, v2900_eqF, v2900_add, v2900_dda, v2900_mul, v2900_lum, v2900_sub, v2900_bad, v2900_cl, h25, h24, h26, e1, e2, c]); rw [if_pos c2, sk_46_7_252, ht_46_8, ch_46_11]; (try simp +decide (disch := omega) only [ni_bF, nI_clamp, nI_add, pk_mul, dc_ltT, dc_ltF, dc_leT, dc_leF, dc_eqF, dc_neT, dn_eq, dn_ne, dn_lt, dn_ge, si_at, si_c, si_k, q_at_nI, q_put_nI, ne_eq, not_false_eq_true, not_true_eq_false, ↓reduceIte, v0_ltT, v0_ltF, v0_gtT, v0_gtF, v0_leT, v0_leF, v0_geT, v0_geF, v0_eqT, v0_eqF, v0_add, v0_dda, v0_mul, v0_lum, v0_sub, v0_bad, v0_cl, v1_ltT, v1_ltF, v1_gtT, v1_gtF, v1_leT, v1_leF, v1_geT, v1_geF, v1_eqT, v1_eqF, v1_add, v1_dda, v1_mul, v1_lum, v1_sub, v1_bad, v1_cl, h25, h24, h26, e1, e2, c]); rw [sk_46_9_179, lp_46_179]
        exact mo_f (Nat.le_refl _) (by repeat (first | exact trivial | refine And.intro rfl ?_)) rfl p
    · rw [ht_46_6, ch_46_9]; (try simp +decide (disch := omega) only [ni_bF, nI_clamp, nI_add, pk_mul, dc_ltT, dc_ltF, dc_leT, dc_leF, dc_eqF, dc_neT, dn_eq, dn_ne, dn_lt, dn_ge, si_at, si_c, si_k, q_at_nI, q_put_nI, ne_eq, not_false_eq_true, not_true_eq_false, ↓reduceIte, v0_ltT, v0_ltF, v0_gtT, v0_gtF, v0_leT, v0_leF, v0_geT, v0_geF, v0_eqT, v0_eqF, v0_add, v0_dda, v0_mul, v0_lum, v0_sub, v0_bad, v0_cl, v24_ltT, v24_ltF, v24_gtT, v24_gtF, v24_leT, v24_leF, v24_geT, v24_geF, v24_eqT, v24_eqF, v24_add, v24_dda, v24_mul, v24_lum, v24_sub, v24_bad, v24_cl, v2900_ltT, v2900_ltF, v2900_gtT, v2900_gtF, v2900_leT, v2900_leF, v2900_geT, v2900_geF, v2900_eqT, v2900_eqF, v2900_add, v2900_dda, v2900_mul, v2900_lum, v2900_sub, v2900_bad, v2900_cl, h25, h24, h26, e1, e2]); rw [if_pos c, sk_46_7_252, ht_46_8, ch_46_11]; (try simp +decide (disch := omega) only [ni_bF, nI_clamp, nI_add, pk_mul, dc_ltT, dc_ltF, dc_leT, dc_leF, dc_eqF, dc_neT, dn_eq, dn_ne, dn_lt, dn_ge, si_at, si_c, si_k, q_at_nI, q_put_nI, ne_eq, not_false_eq_true, not_true_eq_false, ↓reduceIte, v0_ltT, v0_ltF, v0_gtT, v0_gtF, v0_leT, v0_leF, v0_geT, v0_geF, v0_eqT, v0_eqF, v0_add, v0_dda, v0_mul, v0_lum, v0_sub, v0_bad, v0_cl, v1_ltT, v1_ltF, v1_gtT, v1_gtF, v1_leT, v1_leF, v1_geT, v1_geF, v1_eqT, v1_eqF, v1_add, v1_dda, v1_mul, v1_lum, v1_sub, v1_bad, v1_cl, h25, h24, h26, e1, e2]); rw [sk_46_9_179, lp_46_179]
      exact mo_f (Nat.le_refl _) (by repeat (first | exact trivial | refine And.intro rfl ?_)) rfl p
theorem rs_M (d : Nat) (hD : D ≤ 24) (hrd : rd < 2) (h25 : hM 73 25 = nI rd) (h24 : hM 73 24 = nI n) (h26 : hM 73 26 = 0) (d0 : hM 85 rd = nI D) (hn : n ≤ 2900) (hN : ∀ i, i < n → hM 79 (2900 * rd + i) = 24 → ∃ j, j < 2001 ∧ hM 84 i = nI j ∧ gM 78 j = nam i) (hm : ∀ i i', i < i' → i' < n → hM 79 (2900 * rd + i) = 24 → hM 79 (2900 * rd + i') = 24 → hM 84 i ≤ hM 84 i') : ∃ h', rv_M hM (fun i => gM 91 (24 * rd + i)) D rd n nam h' ∧ ((∀ i, i < n → hM 79 (2900 * rd + i) = 24 → ff (fun i => gM 91 (24 * rd + i)) (nam i) D 0 ≠ none) → ∀ R, (∀ x2 : Int32, am_fwd (am_call tb_P (d + 1)) (am_run (am_call tb_P (d + 1)) tb_r46_0 970000) tb_r46_9 258 [(2, .int x2), (1, .int (-1)), (0, .ref 73)] [] (pr_S, h', gM) = some R) → am_fwd (am_call tb_P (d + 1)) (am_run (am_call tb_P (d + 1)) tb_r46_0 990000) tb_r46_2 80 [(0, .ref 73)] [] (pr_S, hM, gM) = some R) ∧ (∀ a, a < n → hM 79 (2900 * rd + a) = 24 → ff (fun i => gM 91 (24 * rd + i)) (nam a) D 0 = none → (∀ i, i < a → hM 79 (2900 * rd + i) = 24 → ff (fun i => gM 91 (24 * rd + i)) (nam i) D 0 ≠ none) → ∀ R, (∀ x2 : Int32, am_fwd (am_call tb_P (d + 1)) (am_run (am_call tb_P (d + 1)) tb_r46_0 970000) tb_r46_9 258 [(2, .int x2), (1, .int (hM 84 a)), (0, .ref 73)] [] (pr_S, h', gM) = some R) → am_fwd (am_call tb_P (d + 1)) (am_run (am_call tb_P (d + 1)) tb_r46_0 990000) tb_r46_2 80 [(0, .ref 73)] [] (pr_S, hM, gM) = some R) := by
  have e1 : nI rd * 2900 = nI (2900 * rd) := by rcases (by omega : rd = 0 ∨ rd = 1) with rfl | rfl <;> rfl
  obtain ⟨h', v1, v2⟩ := rm_loop (hM := hM) (gM := gM) (nam := nam) d hD hrd h25 h24 h26 d0 hn hN n 0 (by omega) hM ⟨fun _ _ _ => rfl, fun _ _ => rfl, fun i' q => absurd q (by omega), fun _ _ => rfl⟩
  obtain ⟨S1, S2, S3, S4⟩ := id v1
  have a25 : h' 73 25 = nI rd := by rw [S2 _ (by decide)]; exact h25
  have a24 : h' 73 24 = nI n := by rw [S2 _ (by decide)]; exact h24
  have a26 : h' 73 26 = 0 := by rw [S2 _ (by decide)]; exact h26
  have op : ∀ i, h' 79 i = hM 79 i := fun i => by rw [S1 _ (by decide) (by decide)]
  have nt : ∀ i, h' 84 i = hM 84 i := fun i => by rw [S1 _ (by decide) (by decide)]
  -- from the first loop's start to the second's
  have go : ∀ R, am_fwd (am_call tb_P (d + 1)) (am_run (am_call tb_P (d + 1)) tb_r46_0 980000) tb_r46_6 179 [(2, .int (nI (2900 * rd + 0))), (1, .int (-1)), (0, .ref 73)] [] (pr_S, h', gM) = some R → am_fwd (am_call tb_P (d + 1)) (am_run (am_call tb_P (d + 1)) tb_r46_0 990000) tb_r46_2 80 [(0, .ref 73)] [] (pr_S, hM, gM) = some R := fun R hR => by
    have p168 : am_fwd (am_call tb_P (d + 1)) (am_run (am_call tb_P (d + 1)) tb_r46_0 980000) tb_r46_5 168 [(1, .int (nI (2900 * rd + n))), (0, .ref 73)] [] (pr_S, h', gM) = some R := by
      rw [ht_46_5, ch_46_6]; try simp +decide (disch := omega) only [ni_bF, nI_clamp, nI_add, pk_mul, dc_ltT, dc_ltF, dc_leT, dc_leF, dc_eqF, dc_neT, dn_eq, dn_ne, dn_lt, dn_ge, si_at, si_c, si_k, q_at_nI, q_put_nI, ne_eq, not_false_eq_true, not_true_eq_false, ↓reduceIte, v0_ltT, v0_ltF, v0_gtT, v0_gtF, v0_leT, v0_leF, v0_geT, v0_geF, v0_eqT, v0_eqF, v0_add, v0_dda, v0_mul, v0_lum, v0_sub, v0_bad, v0_cl, v2900_ltT, v2900_ltF, v2900_gtT, v2900_gtF, v2900_leT, v2900_leF, v2900_geT, v2900_geF, v2900_eqT, v2900_eqF, v2900_add, v2900_dda, v2900_mul, v2900_lum, v2900_sub, v2900_bad, v2900_cl, a25, e1]
      exact hR
    have p := v2 990000 R (by omega) p168
    rw [ht_46_2, ch_46_3]; try simp +decide (disch := omega) only [ni_bF, nI_clamp, nI_add, pk_mul, dc_ltT, dc_ltF, dc_leT, dc_leF, dc_eqF, dc_neT, dn_eq, dn_ne, dn_lt, dn_ge, si_at, si_c, si_k, q_at_nI, q_put_nI, ne_eq, not_false_eq_true, not_true_eq_false, ↓reduceIte, v0_ltT, v0_ltF, v0_gtT, v0_gtF, v0_leT, v0_leF, v0_geT, v0_geF, v0_eqT, v0_eqF, v0_add, v0_dda, v0_mul, v0_lum, v0_sub, v0_bad, v0_cl, v2900_ltT, v2900_ltF, v2900_gtT, v2900_gtF, v2900_leT, v2900_leF, v2900_geT, v2900_geF, v2900_eqT, v2900_eqF, v2900_add, v2900_dda, v2900_mul, v2900_lum, v2900_sub, v2900_bad, v2900_cl, h25, e1]
    exact p
  have stop : ∀ (x1 : Int32) R, (∀ x2 : Int32, am_fwd (am_call tb_P (d + 1)) (am_run (am_call tb_P (d + 1)) tb_r46_0 970000) tb_r46_9 258 [(2, .int x2), (1, .int x1), (0, .ref 73)] [] (pr_S, h', gM) = some R) → ∀ q, 970000 ≤ q → am_fwd (am_call tb_P (d + 1)) (am_run (am_call tb_P (d + 1)) tb_r46_0 q) tb_r46_6 179 [(2, .int (nI (2900 * rd + n))), (1, .int x1), (0, .ref 73)] [] (pr_S, h', gM) = some R := fun x1 R hR q hq => by
    rw [ht_46_6, ch_46_9]; (try simp +decide (disch := omega) only [ni_bF, nI_clamp, nI_add, pk_mul, dc_ltT, dc_ltF, dc_leT, dc_leF, dc_eqF, dc_neT, dn_eq, dn_ne, dn_lt, dn_ge, si_at, si_c, si_k, q_at_nI, q_put_nI, ne_eq, not_false_eq_true, not_true_eq_false, ↓reduceIte, v0_ltT, v0_ltF, v0_gtT, v0_gtF, v0_leT, v0_leF, v0_geT, v0_geF, v0_eqT, v0_eqF, v0_add, v0_dda, v0_mul, v0_lum, v0_sub, v0_bad, v0_cl, v24_ltT, v24_ltF, v24_gtT, v24_gtF, v24_leT, v24_leF, v24_geT, v24_geF, v24_eqT, v24_eqF, v24_add, v24_dda, v24_mul, v24_lum, v24_sub, v24_bad, v24_cl, v2900_ltT, v2900_ltF, v2900_gtT, v2900_gtF, v2900_leT, v2900_leF, v2900_geT, v2900_geF, v2900_eqT, v2900_eqF, v2900_add, v2900_dda, v2900_mul, v2900_lum, v2900_sub, v2900_bad, v2900_cl, a25, a24, e1]); rw [sk_46_7_258]
    exact mo_f hq (by repeat (first | exact trivial | refine And.intro rfl ?_)) rfl (hR _)
  have res1 : ∀ i, i < n → hM 79 (2900 * rd + i) = 24 → ff (fun i => gM 91 (24 * rd + i)) (nam i) D 0 ≠ none → h' 80 (2900 * rd + i) ≠ -1 := fun i q1 q2 q3 => by
    rw [S3 i q1 q2]
    cases hf : ff (fun i => gM 91 (24 * rd + i)) (nam i) D 0 with
    | none => exact absurd hf q3
    | some j =>
      have := ff_lt hf
      exact fun z => by rw [show fs_r (some j) = nI j from rfl, nl_m1 (by omega)] at z; exact z
  refine ⟨h', v1, fun all R hR => go R ?_, fun a a1 a2 a3 a4 R hR => go R ?_⟩
  · refine r2_seg (am_call tb_P (d + 1)) hrd a25 a24 a26 hn R n 0 980000 (by omega) (by omega) (fun i' _ i2 q => Or.inl (res1 i' (by omega) (by rw [← op]; exact q) (all i' (by omega) (by rw [← op]; exact q)))) ?_
    rw [Nat.zero_add]
    exact stop (-1) R hR _ (by omega)
  · refine r2_seg (am_call tb_P (d + 1)) hrd a25 a24 a26 hn R a 0 980000 (by omega) (by omega) (fun i' _ i2 q => Or.inl (res1 i' (by omega) (by rw [← op]; exact q) (a4 i' (by omega) (by rw [← op]; exact q)))) ?_
    rw [Nat.zero_add]
    obtain ⟨q, hq⟩ : ∃ q, 980000 - a = q + 1 := ⟨980000 - a - 1, by omega⟩
    rw [hq]
    have e2 : nI (2900 * rd + a) - nI (2900 * rd) = nI a := by rw [← nI_add, Int32.add_comm, Int32.add_sub_cancel]
    have opa : h' 79 (2900 * rd + a) = 24 := (op _).trans a2
    have ona : h' 80 (2900 * rd + a) = -1 := by rw [S3 a a1 a2, a3]; rfl
    have nta := nt a
    obtain ⟨j, j1, j2, _⟩ := hN a a1 a2
    have nm1 : hM 84 a ≠ -1 := by rw [j2]; exact fun z => by rw [nl_m1 (by omega)] at z; exact z
    have p : am_fwd (am_call tb_P (d + 1)) (am_run (am_call tb_P (d + 1)) tb_r46_0 q) tb_r46_6 179 [(2, .int (nI (2900 * rd + (a + 1)))), (1, .int (hM 84 a)), (0, .ref 73)] [] (pr_S, h', gM) = some R := by
      refine r2_seg (am_call tb_P (d + 1)) hrd a25 a24 a26 hn R (n - (a + 1)) (a + 1) q (by omega) (by omega) (fun i' i1 i2 z => Or.inr ⟨nm1, by rw [nt]; exact hm a i' (by omega) (by omega) a2 (by rw [← op]; exact z)⟩) ?_
      rw [show a + 1 + (n - (a + 1)) = n by omega]
      exact stop _ R hR _ (by omega)
    rw [ht_46_6, ch_46_9]; (try simp +decide (disch := omega) only [ni_bF, nI_clamp, nI_add, pk_mul, dc_ltT, dc_ltF, dc_leT, dc_leF, dc_eqF, dc_neT, dn_eq, dn_ne, dn_lt, dn_ge, si_at, si_c, si_k, q_at_nI, q_put_nI, ne_eq, not_false_eq_true, not_true_eq_false, ↓reduceIte, v0_ltT, v0_ltF, v0_gtT, v0_gtF, v0_leT, v0_leF, v0_geT, v0_geF, v0_eqT, v0_eqF, v0_add, v0_dda, v0_mul, v0_lum, v0_sub, v0_bad, v0_cl, v24_ltT, v24_ltF, v24_gtT, v24_gtF, v24_leT, v24_leF, v24_geT, v24_geF, v24_eqT, v24_eqF, v24_add, v24_dda, v24_mul, v24_lum, v24_sub, v24_bad, v24_cl, v2900_ltT, v2900_ltF, v2900_gtT, v2900_gtF, v2900_leT, v2900_leF, v2900_geT, v2900_geF, v2900_eqT, v2900_eqF, v2900_add, v2900_dda, v2900_mul, v2900_lum, v2900_sub, v2900_bad, v2900_cl, a25, a24, a26, e1, e2, opa, ona, nta]); rw [ht_46_7, ch_46_12, ht_46_8, ch_46_16]; (try simp +decide (disch := omega) only [ni_bF, nI_clamp, nI_add, pk_mul, dc_ltT, dc_ltF, dc_leT, dc_leF, dc_eqF, dc_neT, dn_eq, dn_ne, dn_lt, dn_ge, si_at, si_c, si_k, q_at_nI, q_put_nI, ne_eq, not_false_eq_true, not_true_eq_false, ↓reduceIte, v0_ltT, v0_ltF, v0_gtT, v0_gtF, v0_leT, v0_leF, v0_geT, v0_geF, v0_eqT, v0_eqF, v0_add, v0_dda, v0_mul, v0_lum, v0_sub, v0_bad, v0_cl, v1_ltT, v1_ltF, v1_gtT, v1_gtF, v1_leT, v1_leF, v1_geT, v1_geF, v1_eqT, v1_eqF, v1_add, v1_dda, v1_mul, v1_lum, v1_sub, v1_bad, v1_cl, a25, a24, a26, e1, e2, opa, ona, nta]); rw [sk_46_9_179, lp_46_179]
    exact mo_f (Nat.le_refl _) (by repeat (first | exact trivial | refine And.intro rfl ?_)) rfl p
end RW
