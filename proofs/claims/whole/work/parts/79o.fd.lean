/-! both parsers side by side: DEFS by NAME; the heaps as they were where the reading began -/
def ff (T : Nat → Int64) (v : Int64) : Nat → Nat → Option Nat
  | 0, _ => none
  | n + 1, q => if T q = v then some q else ff T v n (q + 1)
theorem ff_cg {T T' : Nat → Int64} {v : Int64} : ∀ {n q : Nat}, (∀ i, i < q + n → T' i = T i) → ff T' v n q = ff T v n q
  | 0, _, _ => rfl
  | n + 1, q, h => by
    unfold ff
    rw [h q (by omega), ff_cg (fun i hi => h i (by omega))]
theorem ff_lt {T : Nat → Int64} {v : Int64} : ∀ {n q i : Nat}, ff T v n q = some i → i < q + n
  | 0, q, i, h => by cases h
  | n + 1, q, i, h => by
    unfold ff at h
    split at h
    · cases h; omega
    · have := ff_lt h; omega
section FD
variable {h0 h1 hC hM : Nat → Nat → Int32} {g0 g1 gC gM : Nat → Nat → Int64} {B : Nat → Nat} {N M rd k o n t w π D e s : Nat} {G : List Nat}
theorem fd_loop (C : am_C) (v : Int64) (hD : D ≤ 24) (h : hC 3 0 = nI D) : ∀ (m q n : Nat), q + m = D → m ≤ n → am_fwd C (am_run C tb_r207_0 n) tb_r207_1 2 [(3, .int (nI q)), (0, .ref 3), (1, .long v)] [] (pr_S, hC, gC) = some (some (.int (fs_r (ff (gC 4) v m q))), (pr_S, hC, gC)) := by
  intro m
  induction m with
  | zero =>
    intro q n e1 e2
    obtain rfl : q = D := by omega
    rw [ht_207_3_1, ch_207_3_1]; (try simp +decide (disch := omega) only [ni_bF, nI_clamp, nI_add, pk_mul, dc_ltT, dc_ltF, dc_leT, dc_leF, dc_eqF, dc_neT, dn_eq, dn_ne, dn_lt, dn_ge, si_at, si_c, si_k, q_at_nI, q_put_nI, ne_eq, not_false_eq_true, not_true_eq_false, ↓reduceIte, v0_ltT, v0_ltF, v0_gtT, v0_gtF, v0_leT, v0_leF, v0_geT, v0_geF, v0_eqT, v0_eqF, v0_add, v0_dda, v0_mul, v0_lum, v0_sub, v0_bad, v0_cl, v24_ltT, v24_ltF, v24_gtT, v24_gtF, v24_leT, v24_leF, v24_geT, v24_geF, v24_eqT, v24_eqF, v24_add, v24_dda, v24_mul, v24_lum, v24_sub, v24_bad, v24_cl, h]); rw [sk_207_3_2_35, ht_207_3_3, ch_207_3_2]
    rfl
  | succ m ih =>
    intro q n e1 e2
    obtain ⟨n, rfl⟩ : ∃ n', n = n' + 1 := ⟨n - 1, by omega⟩
    have p := ih (q + 1) n (by omega) (by omega)
    unfold ff
    by_cases c : gC 4 q = v
    · rw [if_pos c]
      rw [ht_207_3_1, ch_207_3_1]; (try simp +decide (disch := omega) only [ni_bF, nI_clamp, nI_add, pk_mul, dc_ltT, dc_ltF, dc_leT, dc_leF, dc_eqF, dc_neT, dn_eq, dn_ne, dn_lt, dn_ge, si_at, si_c, si_k, q_at_nI, q_put_nI, ne_eq, not_false_eq_true, not_true_eq_false, ↓reduceIte, v0_ltT, v0_ltF, v0_gtT, v0_gtF, v0_leT, v0_leF, v0_geT, v0_geF, v0_eqT, v0_eqF, v0_add, v0_dda, v0_mul, v0_lum, v0_sub, v0_bad, v0_cl, v24_ltT, v24_ltF, v24_gtT, v24_gtF, v24_leT, v24_leF, v24_geT, v24_geF, v24_eqT, v24_eqF, v24_add, v24_dda, v24_mul, v24_lum, v24_sub, v24_bad, v24_cl, h]); rw [if_neg (fun z => (lg_ne.mp z) c)]
      rfl
    · rw [if_neg c]
      rw [ht_207_3_1, ch_207_3_1]; (try simp +decide (disch := omega) only [ni_bF, nI_clamp, nI_add, pk_mul, dc_ltT, dc_ltF, dc_leT, dc_leF, dc_eqF, dc_neT, dn_eq, dn_ne, dn_lt, dn_ge, si_at, si_c, si_k, q_at_nI, q_put_nI, ne_eq, not_false_eq_true, not_true_eq_false, ↓reduceIte, v0_ltT, v0_ltF, v0_gtT, v0_gtF, v0_leT, v0_leF, v0_geT, v0_geF, v0_eqT, v0_eqF, v0_add, v0_dda, v0_mul, v0_lum, v0_sub, v0_bad, v0_cl, v24_ltT, v24_ltF, v24_gtT, v24_gtF, v24_leT, v24_leF, v24_geT, v24_geF, v24_eqT, v24_eqF, v24_add, v24_dda, v24_mul, v24_lum, v24_sub, v24_bad, v24_cl, h]); rw [if_pos (lg_ne.mpr c), ht_207_3_2, ch_207_3_3]; (try simp +decide (disch := omega) only [ni_bF, nI_clamp, nI_add, pk_mul, dc_ltT, dc_ltF, dc_leT, dc_leF, dc_eqF, dc_neT, dn_eq, dn_ne, dn_lt, dn_ge, si_at, si_c, si_k, q_at_nI, q_put_nI, ne_eq, not_false_eq_true, not_true_eq_false, ↓reduceIte, v0_ltT, v0_ltF, v0_gtT, v0_gtF, v0_leT, v0_leF, v0_geT, v0_geF, v0_eqT, v0_eqF, v0_add, v0_dda, v0_mul, v0_lum, v0_sub, v0_bad, v0_cl, v1_ltT, v1_ltF, v1_gtT, v1_gtF, v1_leT, v1_leF, v1_geT, v1_geF, v1_eqT, v1_eqF, v1_add, v1_dda, v1_mul, v1_lum, v1_sub, v1_bad, v1_cl, h]); rw [sk_207_3_3_2, lp_207_3_2]
      exact p
theorem ea_findDef (d : Nat) (v : Int64) (hD : D ≤ 24) (h : hC 3 0 = nI D) : am_call tb_P (d + 1) 207 [.ref 3, .long v] (pr_S, hC, gC) = some (some (.int (fs_r (ff (gC 4) v D 0))), (pr_S, hC, gC)) := by
  have k := fd_loop (hC := hC) (gC := gC) (am_call tb_P d) v hD h D 0 999999 (by omega) (by omega)
  rw [en_207_3, ht_207_3_0, ch_207_3_0]
  exact k
theorem fm2_loop (C : am_C) (v : Int64) (hD : D ≤ 24) (hr : rd < 2) (h25 : hM 73 25 = nI rd) (h : hM 85 rd = nI D) : ∀ (m q n : Nat), q + m = D → m ≤ n → am_fwd C (am_run C tb_r44_0 n) tb_r44_1 2 [(3, .int (nI q)), (0, .ref 73), (1, .long v)] [] (pr_S, hM, gM) = some (some (.int (fs_r (ff (fun i => gM 91 (24 * rd + i)) v m q))), (pr_S, hM, gM)) := by
  intro m
  induction m with
  | zero =>
    intro q n e1 e2
    obtain rfl : q = D := by omega
    rw [ht_44_1, ch_44_1]; (try simp +decide (disch := omega) only [ni_bF, nI_clamp, nI_add, pk_mul, dc_ltT, dc_ltF, dc_leT, dc_leF, dc_eqF, dc_neT, dn_eq, dn_ne, dn_lt, dn_ge, si_at, si_c, si_k, q_at_nI, q_put_nI, ne_eq, not_false_eq_true, not_true_eq_false, ↓reduceIte, v0_ltT, v0_ltF, v0_gtT, v0_gtF, v0_leT, v0_leF, v0_geT, v0_geF, v0_eqT, v0_eqF, v0_add, v0_dda, v0_mul, v0_lum, v0_sub, v0_bad, v0_cl, v24_ltT, v24_ltF, v24_gtT, v24_gtF, v24_leT, v24_leF, v24_geT, v24_geF, v24_eqT, v24_eqF, v24_add, v24_dda, v24_mul, v24_lum, v24_sub, v24_bad, v24_cl, h, h25]); rw [sk_44_2_42, ht_44_3, ch_44_2]
    rfl
  | succ m ih =>
    intro q n e1 e2
    obtain ⟨n, rfl⟩ : ∃ n', n = n' + 1 := ⟨n - 1, by omega⟩
    have p := ih (q + 1) n (by omega) (by omega)
    have i24 : (24 : Int32) * nI rd = nI (24 * rd) := by rcases (by omega : rd = 0 ∨ rd = 1) with rfl | rfl <;> rfl
    unfold ff
    by_cases c : gM 91 (24 * rd + q) = v
    · rw [if_pos c]
      rw [ht_44_1, ch_44_1]; (try simp +decide (disch := omega) only [ni_bF, nI_clamp, nI_add, pk_mul, dc_ltT, dc_ltF, dc_leT, dc_leF, dc_eqF, dc_neT, dn_eq, dn_ne, dn_lt, dn_ge, si_at, si_c, si_k, q_at_nI, q_put_nI, ne_eq, not_false_eq_true, not_true_eq_false, ↓reduceIte, v0_ltT, v0_ltF, v0_gtT, v0_gtF, v0_leT, v0_leF, v0_geT, v0_geF, v0_eqT, v0_eqF, v0_add, v0_dda, v0_mul, v0_lum, v0_sub, v0_bad, v0_cl, v24_ltT, v24_ltF, v24_gtT, v24_gtF, v24_leT, v24_leF, v24_geT, v24_geF, v24_eqT, v24_eqF, v24_add, v24_dda, v24_mul, v24_lum, v24_sub, v24_bad, v24_cl, h, h25, i24]); rw [if_neg (fun z => (lg_ne.mp z) c)]
      rfl
    · rw [if_neg c]
      rw [ht_44_1, ch_44_1]; (try simp +decide (disch := omega) only [ni_bF, nI_clamp, nI_add, pk_mul, dc_ltT, dc_ltF, dc_leT, dc_leF, dc_eqF, dc_neT, dn_eq, dn_ne, dn_lt, dn_ge, si_at, si_c, si_k, q_at_nI, q_put_nI, ne_eq, not_false_eq_true, not_true_eq_false, ↓reduceIte, v0_ltT, v0_ltF, v0_gtT, v0_gtF, v0_leT, v0_leF, v0_geT, v0_geF, v0_eqT, v0_eqF, v0_add, v0_dda, v0_mul, v0_lum, v0_sub, v0_bad, v0_cl, v24_ltT, v24_ltF, v24_gtT, v24_gtF, v24_leT, v24_leF, v24_geT, v24_geF, v24_eqT, v24_eqF, v24_add, v24_dda, v24_mul, v24_lum, v24_sub, v24_bad, v24_cl, h, h25, i24]); rw [if_pos (lg_ne.mpr c), ht_44_2, ch_44_3]; (try simp +decide (disch := omega) only [ni_bF, nI_clamp, nI_add, pk_mul, dc_ltT, dc_ltF, dc_leT, dc_leF, dc_eqF, dc_neT, dn_eq, dn_ne, dn_lt, dn_ge, si_at, si_c, si_k, q_at_nI, q_put_nI, ne_eq, not_false_eq_true, not_true_eq_false, ↓reduceIte, v0_ltT, v0_ltF, v0_gtT, v0_gtF, v0_leT, v0_leF, v0_geT, v0_geF, v0_eqT, v0_eqF, v0_add, v0_dda, v0_mul, v0_lum, v0_sub, v0_bad, v0_cl, v1_ltT, v1_ltF, v1_gtT, v1_gtF, v1_leT, v1_leF, v1_geT, v1_geF, v1_eqT, v1_eqF, v1_add, v1_dda, v1_mul, v1_lum, v1_sub, v1_bad, v1_cl, h, h25, i24]); rw [sk_44_3_2, lp_44_2]
      exact p
theorem em_defNamed (d : Nat) (v : Int64) (hD : D ≤ 24) (hr : rd < 2) (h25 : hM 73 25 = nI rd) (h : hM 85 rd = nI D) : am_call tb_P (d + 1) 44 [.ref 73, .long v] (pr_S, hM, gM) = some (some (.int (fs_r (ff (fun i => gM 91 (24 * rd + i)) v D 0))), (pr_S, hM, gM)) := by
  have k := fm2_loop (hM := hM) (gM := gM) (am_call tb_P d) v hD hr h25 h D 0 999999 (by omega) (by omega)
  rw [en_44, ht_44_0, ch_44_0]
  exact k
end FD
/-- what the reading leaves as it was, in both -/
def fx (H0 : Nat → Nat → Int32) (G0 : Nat → Nat → Int64) (H1 : Nat → Nat → Int32) (G1 : Nat → Nat → Int64) (N rd : Nat) (hC : Nat → Nat → Int32) (gC : Nat → Nat → Int64) (hM : Nat → Nat → Int32) (gM : Nat → Nat → Int64) : Prop :=
  (∀ c, c ≠ 1 → c ≠ 3 → (c < 5 ∨ 16 < c) → c ≠ 32 → c ≠ 34 → hC c = H0 c) ∧ hC 1 0 = nI N ∧ (∀ c, c ≠ 1 → c ≠ 33 → c ≠ 4 → gC c = G0 c)
  ∧ (∀ c, c ≠ 73 → (c < 79 ∨ 84 < c) → (c < 85 ∨ 90 < c) → (c < 92 ∨ 94 < c) → c ≠ 96 → hM c = H1 c)
  ∧ (∀ x, x ≠ 6 → x ≠ 24 → x ≠ 26 → x ≠ 27 → x ≠ 29 → x ≠ 32 → x ≠ 33 → hM 73 x = H1 73 x) ∧ (∀ c, c ≠ 95 → c ≠ 91 → gM c = G1 c)
  ∧ (∀ c i, 79 ≤ c → c ≤ 83 → (i < 2900 * rd ∨ 2900 * rd + 2900 ≤ i) → hM c i = H1 c i) ∧ (∀ c i, (c = 85 ∨ c = 86) → i ≠ rd → hM c i = H1 c i)
  ∧ (∀ c i, 86 < c → c ≤ 90 → (i < 24 * rd ∨ 24 * rd + 24 ≤ i) → hM c i = H1 c i) ∧ (∀ c i, 92 ≤ c → c ≤ 94 → (i < 200 * rd ∨ 200 * rd + 200 ≤ i) → hM c i = H1 c i)
section FX
variable {H0 H1 h0 h1 hC hM : Nat → Nat → Int32} {G0 G1 g0 g1 gC gM : Nat → Nat → Int64} {B : Nat → Nat} {N M rd k o n t w π D e s : Nat} {G : List Nat}
theorem px_fx (X : px H0 H1 G1 B N M rd) (F : fx H0 G0 H1 G1 N rd hC gC hM gM) : px hC hM gM B N M rd := by
  obtain ⟨x1, x2, x3, x4, x5, x6, x7, x8, x9⟩ := X
  obtain ⟨f1, f2, f3, f4, f5, f6, _⟩ := F
  refine ⟨?_, ?_, x3, x4, ?_, ?_, x7, ?_, x9⟩
  · rw [f1 2 (by decide) (by decide) (by decide) (by decide) (by decide)]; exact x1
  · unfold ct_S at x2 ⊢
    rw [f4 75 (by decide) (by decide) (by decide) (by decide) (by decide), f4 76 (by decide) (by decide) (by decide) (by decide) (by decide), f4 77 (by decide) (by decide) (by decide) (by decide) (by decide), f6 78 (by decide) (by decide)]
    exact x2
  · rw [f4 75 (by decide) (by decide) (by decide) (by decide) (by decide)]; exact x5
  · rw [f4 76 (by decide) (by decide) (by decide) (by decide) (by decide)]; exact x6
  · rw [f5 25 (by decide) (by decide) (by decide) (by decide) (by decide) (by decide) (by decide)]; exact x8
theorem fx_pf {hC' hM' : Nat → Nat → Int32} {gC' gM' : Nat → Nat → Int64} (F : fx H0 G0 H1 G1 N rd hC gC hM gM) (a : pf_C hC gC N hC' gC') (b : pf_M hM gM rd hM' gM') : fx H0 G0 H1 G1 N rd hC' gC' hM' gM' := by
  obtain ⟨f1, f2, f3, f4, f5, f6, f7, f8, f9, f10⟩ := F
  obtain ⟨b1, b2, b3, b4, b5, b6⟩ := b
  refine ⟨fun c q1 q2 q3 q4 q5 => ?_, a.2.2.1, fun c q1 q2 q3 => ?_, fun c q1 q2 q3 q4 q5 => ?_, fun x a1 a2 a3 a4 a5 a6 a7 => ?_, fun c q1 q2 => ?_, fun c i q1 q2 q3 => ?_, fun c i q1 q2 => ?_, fun c i q1 q2 q3 => ?_, fun c i q1 q2 q3 => ?_⟩
  · rw [a.1 c q1 q2 (by omega) q4 q5]; exact f1 c q1 q2 q3 q4 q5
  · rw [a.2.2.2 c q1 q2]; exact f3 c q1 q2 q3
  · rw [b1 c q1 q2 (by omega) q4 q5]; exact f4 c q1 q2 q3 q4 q5
  · rw [b2 x a1 a2 a3 a4 a5 a6 a7]; exact f5 x a1 a2 a3 a4 a5 a6 a7
  · rw [b3 c q1]; exact f6 c q1 q2
  · rw [b4 c i q1 q2 q3]; exact f7 c i q1 q2 q3
  · have : hM' c i = hM c i := by
      rcases q1 with e | e
      · rw [b1 c (by omega) (by omega) (by omega) (by omega) (by omega)]
      · rw [e]; exact b5 i q2
    rw [this]; exact f8 c i q1 q2
  · rw [b1 c (by omega) (by omega) (by omega) (by omega) (by omega)]; exact f9 c i q1 q2 q3
  · rw [b6 c i q1 q2 q3]; exact f10 c i q1 q2 q3
theorem pf_Cr (h : hC 1 0 = nI N) : pf_C hC gC N hC gC := ⟨fun _ _ _ _ _ _ => rfl, rfl, h, fun _ _ _ => rfl⟩
theorem pf_Mr : pf_M hM gM rd hM gM := ⟨fun _ _ _ _ _ _ => rfl, fun _ _ _ _ _ _ _ _ => rfl, fun _ _ => rfl, fun _ _ _ _ _ => rfl, fun _ _ => rfl, fun _ _ _ _ _ => rfl⟩
end FX
