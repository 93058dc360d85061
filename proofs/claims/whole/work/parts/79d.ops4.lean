/-! both parsers side by side: a new NODE, the end of a scope, looking a NAME up -/
def xn (h : Nat → Nat → Int32) (n : Nat) (kd m a b c : Int32) : Nat → Nat → Int32 := am_si (am_si (am_si (am_si (am_si (am_si h 12 n kd) 13 n m) 14 n a) 15 n b) 16 n c) 3 2 (nI (n + 1))
def xnm (h : Nat → Nat → Int32) (z n : Nat) (wh a b c : Int32) : Nat → Nat → Int32 := am_si (am_si (am_si (am_si (am_si (am_si h 79 (z + n) wh) 80 (z + n) a) 81 (z + n) b) 82 (z + n) c) 83 (z + n) (-1)) 73 24 (nI (n + 1))
section OS
variable {h0 h1 hC hM : Nat → Nat → Int32} {g0 g1 gC gM : Nat → Nat → Int64} {B : Nat → Nat} {N M rd k o n t w π D : Nat} {G : List Nat}
theorem xn_c {q : Nat} {kd m a b c : Int32} (e : q < 12 ∨ 16 < q) (e2 : q ≠ 3) : xn hC n kd m a b c q = hC q := by
  unfold xn
  rw [am_si_ne e2, am_si_ne (by omega), am_si_ne (by omega), am_si_ne (by omega), am_si_ne (by omega), am_si_ne (by omega)]
theorem xn_i {q i : Nat} {kd m a b c : Int32} (e : i ≠ n) (e2 : q ≠ 3) : xn hC n kd m a b c q i = hC q i := by
  unfold xn
  rw [am_si_ne e2, am_si_off (by omega), am_si_off (by omega), am_si_off (by omega), am_si_off (by omega), am_si_off (by omega)]
theorem xn_at (kd m a b c : Int32) : xn hC n kd m a b c 12 n = kd ∧ xn hC n kd m a b c 13 n = m ∧ xn hC n kd m a b c 14 n = a ∧ xn hC n kd m a b c 15 n = b ∧ xn hC n kd m a b c 16 n = c := by
  unfold xn
  simp (disch := decide) only [am_si_ne, am_si_self, upd_at]
  exact ⟨trivial, trivial, trivial, trivial, trivial⟩
theorem xnm_at (z : Nat) (wh a b c : Int32) : xnm hM z n wh a b c 79 (z + n) = wh ∧ xnm hM z n wh a b c 80 (z + n) = a ∧ xnm hM z n wh a b c 81 (z + n) = b ∧ xnm hM z n wh a b c 82 (z + n) = c ∧ xnm hM z n wh a b c 83 (z + n) = -1 := by
  unfold xnm
  simp (disch := decide) only [am_si_ne, am_si_self, upd_at]
  exact ⟨trivial, trivial, trivial, trivial, trivial⟩
theorem ea_newNode (d : Nat) {kd m a b : Int32} (h : hC 32 1 = 0) (h2 : hC 3 2 = nI n) (hn : n < 4000) : am_call tb_P (d + 2) 199 [.ref 32, .int kd, .int m, .int a, .int b] (pr_S, hC, gC) = some (some (.int (nI n)), (pr_S, xn hC n kd m a b (-1), gC)) := by
  have an : am_call tb_P (d + 1) 206 [.ref 3, .int kd, .int m, .int a, .int b, .int (-1)] (pr_S, hC, gC) = some (some (.int (nI n)), (pr_S, xn hC n kd m a b (-1), gC)) := by
    rw [en_206_3, ht_206_3_0, ch_206_3_0]; (try simp +decide (disch := omega) only [ni_bF, nI_clamp, nI_add, pk_mul, dc_ltT, dc_ltF, dc_leT, dc_leF, dc_eqF, dc_neT, dn_eq, dn_ne, dn_lt, dn_ge, si_at, si_c, si_k, q_at_nI, q_put_nI, ne_eq, not_false_eq_true, not_true_eq_false, ↓reduceIte, v0_ltT, v0_ltF, v0_gtT, v0_gtF, v0_leT, v0_leF, v0_geT, v0_geF, v0_eqT, v0_eqF, v0_add, v0_dda, v0_mul, v0_lum, v0_sub, v0_bad, v0_cl, v4000_ltT, v4000_ltF, v4000_gtT, v4000_gtF, v4000_leT, v4000_leF, v4000_geT, v4000_geF, v4000_eqT, v4000_eqF, v4000_add, v4000_dda, v4000_mul, v4000_lum, v4000_sub, v4000_bad, v4000_cl, h2, Nat.add_sub_cancel]); rw [ht_206_3_1, ch_206_3_1]; try simp +decide (disch := omega) only [ni_bF, nI_clamp, nI_add, pk_mul, dc_ltT, dc_ltF, dc_leT, dc_leF, dc_eqF, dc_neT, dn_eq, dn_ne, dn_lt, dn_ge, si_at, si_c, si_k, q_at_nI, q_put_nI, ne_eq, not_false_eq_true, not_true_eq_false, ↓reduceIte, v0_ltT, v0_ltF, v0_gtT, v0_gtF, v0_leT, v0_leF, v0_geT, v0_geF, v0_eqT, v0_eqF, v0_add, v0_dda, v0_mul, v0_lum, v0_sub, v0_bad, v0_cl, v1_ltT, v1_ltF, v1_gtT, v1_gtF, v1_leT, v1_leF, v1_geT, v1_geF, v1_eqT, v1_eqF, v1_add, v1_dda, v1_mul, v1_lum, v1_sub, v1_bad, v1_cl, h2, Nat.add_sub_cancel]
    rfl
  rw [en_199, ht_199_0, ch_199_0]; (try simp +decide (disch := omega) only [ni_bF, nI_clamp, nI_add, pk_mul, dc_ltT, dc_ltF, dc_leT, dc_leF, dc_eqF, dc_neT, dn_eq, dn_ne, dn_lt, dn_ge, si_at, si_c, si_k, q_at_nI, q_put_nI, ne_eq, not_false_eq_true, not_true_eq_false, ↓reduceIte, v0_ltT, v0_ltF, v0_gtT, v0_gtF, v0_leT, v0_leF, v0_geT, v0_geF, v0_eqT, v0_eqF, v0_add, v0_dda, v0_mul, v0_lum, v0_sub, v0_bad, v0_cl, h]); rw [ht_199_1, ch_199_1, an, ev_rs, ch_199_3, ht_199_2, ch_199_2]
theorem ea_addNode (d : Nat) {kd m a b c : Int32} (h2 : hC 3 2 = nI n) (hn : n < 4000) : am_call tb_P (d + 1) 206 [.ref 3, .int kd, .int m, .int a, .int b, .int c] (pr_S, hC, gC) = some (some (.int (nI n)), (pr_S, xn hC n kd m a b c, gC)) := by
  rw [en_206_3, ht_206_3_0, ch_206_3_0]; (try simp +decide (disch := omega) only [ni_bF, nI_clamp, nI_add, pk_mul, dc_ltT, dc_ltF, dc_leT, dc_leF, dc_eqF, dc_neT, dn_eq, dn_ne, dn_lt, dn_ge, si_at, si_c, si_k, q_at_nI, q_put_nI, ne_eq, not_false_eq_true, not_true_eq_false, ↓reduceIte, v0_ltT, v0_ltF, v0_gtT, v0_gtF, v0_leT, v0_leF, v0_geT, v0_geF, v0_eqT, v0_eqF, v0_add, v0_dda, v0_mul, v0_lum, v0_sub, v0_bad, v0_cl, v4000_ltT, v4000_ltF, v4000_gtT, v4000_gtF, v4000_leT, v4000_leF, v4000_geT, v4000_geF, v4000_eqT, v4000_eqF, v4000_add, v4000_dda, v4000_mul, v4000_lum, v4000_sub, v4000_bad, v4000_cl, h2, Nat.add_sub_cancel]); rw [ht_206_3_1, ch_206_3_1]; try simp +decide (disch := omega) only [ni_bF, nI_clamp, nI_add, pk_mul, dc_ltT, dc_ltF, dc_leT, dc_leF, dc_eqF, dc_neT, dn_eq, dn_ne, dn_lt, dn_ge, si_at, si_c, si_k, q_at_nI, q_put_nI, ne_eq, not_false_eq_true, not_true_eq_false, ↓reduceIte, v0_ltT, v0_ltF, v0_gtT, v0_gtF, v0_leT, v0_leF, v0_geT, v0_geF, v0_eqT, v0_eqF, v0_add, v0_dda, v0_mul, v0_lum, v0_sub, v0_bad, v0_cl, v1_ltT, v1_ltF, v1_gtT, v1_gtF, v1_leT, v1_leF, v1_geT, v1_geF, v1_eqT, v1_eqF, v1_add, v1_dda, v1_mul, v1_lum, v1_sub, v1_bad, v1_cl, h2, Nat.add_sub_cancel]
  rfl
theorem ea_newNodeB (d : Nat) {kd m a b : Int32} (h : hC 32 1 ≠ 0) : am_call tb_P (d + 1) 199 [.ref 32, .int kd, .int m, .int a, .int b] (pr_S, hC, gC) = some (some (.int (-1)), (pr_S, hC, gC)) := by
  rw [en_199, ht_199_0, ch_199_0, if_neg h, sk_199_1_24, ht_199_2, ch_199_2]
theorem em_node (d : Nat) {wh a b c : Int32} (h25 : hM 73 25 = nI rd) (h24 : hM 73 24 = nI n) (hr : rd < 2) (hn : n < 2900) : am_call tb_P (d + 1) 30 [.ref 73, .int wh, .int a, .int b, .int c] (pr_S, hM, gM) = some (some (.int (nI (2900 * rd + n))), (pr_S, xnm hM (2900 * rd) n wh a b c, gM)) := by
  have e : nI rd * 2900 + nI n = nI (2900 * rd + n) := by
    rw [show (2900 : Int32) = nI 2900 from rfl, pk_mul, nI_add, Nat.mul_comm]
  rw [en_30, ht_30_0, ch_30_0]; try simp +decide (disch := omega) only [ni_bF, nI_clamp, nI_add, pk_mul, dc_ltT, dc_ltF, dc_leT, dc_leF, dc_eqF, dc_neT, dn_eq, dn_ne, dn_lt, dn_ge, si_at, si_c, si_k, q_at_nI, q_put_nI, ne_eq, not_false_eq_true, not_true_eq_false, ↓reduceIte, v0_ltT, v0_ltF, v0_gtT, v0_gtF, v0_leT, v0_leF, v0_geT, v0_geF, v0_eqT, v0_eqF, v0_add, v0_dda, v0_mul, v0_lum, v0_sub, v0_bad, v0_cl, v1_ltT, v1_ltF, v1_gtT, v1_gtF, v1_leT, v1_leF, v1_geT, v1_geF, v1_eqT, v1_eqF, v1_add, v1_dda, v1_mul, v1_lum, v1_sub, v1_bad, v1_cl, v2900_ltT, v2900_ltF, v2900_gtT, v2900_gtF, v2900_leT, v2900_leF, v2900_geT, v2900_geF, v2900_eqT, v2900_eqF, v2900_add, v2900_dda, v2900_mul, v2900_lum, v2900_sub, v2900_bad, v2900_cl, h25, h24, e]
  unfold xnm
  rw [Nat.mul_comm]
theorem px_25 (X : px h0 h1 g1 B N M rd) (F : pf_M h1 g1 rd hM gM) : hM 73 25 = nI rd := by rw [F.2.1 25 (by decide) (by decide) (by decide) (by decide) (by decide) (by decide) (by decide)]; exact X.2.2.2.2.2.2.2.1
/-- a NODE in both: hM' is the reference behind it -/
theorem po_node {hM' : Nat → Nat → Int32} {kd m a b c : Int32} (X : px h0 h1 g1 B N M rd) (P : ps_O h0 g0 h1 g1 B N M rd hC gC hM gM k o n t w G) (hn : n < 2900) (e1 : ∀ c, c ≠ 73 → (c < 79 ∨ 84 < c) → hM' c = hM c) (e2 : ∀ c i, 79 ≤ c → c ≤ 83 → i ≠ 2900 * rd + n → hM' c i = hM c i) (e3 : ∀ i, i ≠ n → hM' 84 i = hM 84 i) (e4 : ∀ x, x ≠ 24 → hM' 73 x = hM 73 x) (e5 : hM' 73 24 = nI (n + 1)) (Q : nr (xn hC n kd m a b c 12) (xn hC n kd m a b c 13) (xn hC n kd m a b c 14) (xn hC n kd m a b c 15) (xn hC n kd m a b c 16) (hC 9) hM' B N M k t (2900 * rd) n) : ps_O h0 g0 h1 g1 B N M rd (xn hC n kd m a b c) gC hM' gM k o (n + 1) t w G := by
  obtain ⟨F1, F2, p1, p2, p3, p4, p5, p6, p7⟩ := P
  refine ⟨⟨fun c q1 q2 q3 q4 q5 => by rw [xn_c (by omega) q2]; exact F1.1 c q1 q2 q3 q4 q5, ?_, by rw [xn_c (by decide) (by decide)]; exact F1.2.2.1, F1.2.2.2⟩, ⟨fun c q1 q2 q3 q4 q5 => by rw [e1 c q1 q2]; exact F2.1 c q1 q2 q3 q4 q5, fun x a1 a2 a3 a4 a5 a6 a7 => by rw [e4 x a2]; exact F2.2.1 x a1 a2 a3 a4 a5 a6 a7, F2.2.2.1, fun c i a1 a2 a3 => by rw [e2 c i a1 a2 (by omega)]; exact F2.2.2.2.1 c i a1 a2 a3, fun i hi => by rw [e1 _ (by decide) (by decide)]; exact F2.2.2.2.2.1 i hi, fun c i a1 a2 a3 => by rw [e1 c (by omega) (by omega)]; exact F2.2.2.2.2.2 c i a1 a2 a3⟩, ?_, ?_, ⟨?_, ?_, ?_, ?_, e5⟩, ?_, ?_, ⟨?_, fun i hi => ?_⟩, p7⟩
  · unfold xn; rw [am_si_off (by decide), am_si_ne (by decide), am_si_ne (by decide), am_si_ne (by decide), am_si_ne (by decide), am_si_ne (by decide)]; exact F1.2.1
  · unfold at_C at p1 ⊢; rw [xn_c (by decide) (by decide)]; exact p1
  · rw [xn_c (by decide) (by decide)]; exact p2
  · rw [e4 _ (by decide)]; exact p3.1
  · rw [e4 _ (by decide)]; exact p3.2.1
  · rw [e4 _ (by decide)]; exact p3.2.2.1
  · rw [e4 _ (by decide)]; exact p3.2.2.2.1
  · rw [xn_c (by decide) (by decide), e1 _ (by decide) (by decide)]; exact p4
  · rw [xn_c (q := 9) (by decide) (by decide), xn_c (q := 10) (by decide) (by decide), xn_c (q := 11) (by decide) (by decide), e1 86 (by decide) (by decide), e1 92 (by decide) (by decide), e1 93 (by decide) (by decide), e1 94 (by decide) (by decide)]
    refine ⟨?_, p5.2⟩
    unfold xn; rw [am_si_off (by decide), am_si_ne (by decide), am_si_ne (by decide), am_si_ne (by decide), am_si_ne (by decide), am_si_ne (by decide)]; exact p5.1
  · exact am_si_at _ _ _ _
  · rw [xn_c (q := 9) (by decide) (by decide)]
    by_cases e : i = n
    · subst e; exact Q
    · have hi2 : i < n := by omega
      have zz : 2900 * rd + i ≠ 2900 * rd + n := by omega
      have := p6.2 i hi2
      have kc : ∀ i', i' < i → xn hC n kd m a b c 12 i' = hC 12 i' ∧ hM' 84 i' = hM 84 i' := fun i' q => ⟨xn_i (by omega) (by decide), e3 i' (by omega)⟩
      unfold nr rp_N at this ⊢
      rw [xn_i e (by decide), xn_i e (by decide), xn_i e (by decide), xn_i e (by decide), xn_i e (by decide), e2 79 _ (by decide) (by decide) zz, e2 80 _ (by decide) (by decide) zz, e2 81 _ (by decide) (by decide) zz, e2 82 _ (by decide) (by decide) zz, e2 83 _ (by decide) (by decide) zz, e3 i e]
      refine ⟨this.1, fun q => ?_, this.2.2⟩
      obtain ⟨a1, a2, a3, j, b1, b2, b3, b4, b5, b6⟩ := this.2.1 q
      exact ⟨a1, a2, a3, j, b1, b2, b3, b4, b5, fun i' q1 q2 => by rw [(kc i' q1).2]; exact b6 i' q1 ((kc i' q1).1.symm.trans q2)⟩
theorem xnm_c (z : Nat) {wh a b c : Int32} : (∀ q, q ≠ 73 → (q < 79 ∨ 84 < q) → xnm hM z n wh a b c q = hM q) ∧ (∀ q i, 79 ≤ q → q ≤ 83 → i ≠ z + n → xnm hM z n wh a b c q i = hM q i) ∧ (∀ i, i ≠ n → xnm hM z n wh a b c 84 i = hM 84 i) ∧ (∀ x, x ≠ 24 → xnm hM z n wh a b c 73 x = hM 73 x) ∧ xnm hM z n wh a b c 73 24 = nI (n + 1) := by
  unfold xnm
  refine ⟨fun q q1 q2 => ?_, fun q i q1 q2 q3 => ?_, fun i hi => ?_, fun x hx => ?_, am_si_at _ _ _ _⟩
  · rw [am_si_ne q1, am_si_ne (by omega), am_si_ne (by omega), am_si_ne (by omega), am_si_ne (by omega), am_si_ne (by omega)]
  · rw [am_si_ne (by omega), am_si_off (by omega), am_si_off (by omega), am_si_off (by omega), am_si_off (by omega), am_si_off (by omega)]
  · rw [am_si_ne (by decide), am_si_ne (by decide), am_si_ne (by decide), am_si_ne (by decide), am_si_ne (by decide), am_si_ne (by decide)]
  · rw [am_si_off (by omega), am_si_ne (by decide), am_si_ne (by decide), am_si_ne (by decide), am_si_ne (by decide), am_si_ne (by decide)]
/-- a NODE of the reference, where both have failed -/
theorem pb_node {hM' : Nat → Nat → Int32} (P : ps_B h0 g0 h1 g1 B N M rd hC gC hM gM k n w) (e1 : ∀ c, c ≠ 73 → (c < 79 ∨ 84 < c) → hM' c = hM c) (hn : n < 2900) (e2 : ∀ c i, 79 ≤ c → c ≤ 83 → i ≠ 2900 * rd + n → hM' c i = hM c i) (e4 : ∀ x, x ≠ 24 → hM' 73 x = hM 73 x) (e5 : hM' 73 24 = nI (n + 1)) : ps_B h0 g0 h1 g1 B N M rd hC gC hM' gM k (n + 1) w := by
  obtain ⟨F1, F2, f, p, b1, b2, b3, b4, b5, b6, b7, b8, b9⟩ := P
  refine ⟨F1, ⟨fun c q1 q2 q3 q4 q5 => by rw [e1 c q1 q2]; exact F2.1 c q1 q2 q3 q4 q5, fun x a1 a2 a3 a4 a5 a6 a7 => by rw [e4 x a2]; exact F2.2.1 x a1 a2 a3 a4 a5 a6 a7, F2.2.2.1, fun c i a1 a2 a3 => by rw [e2 c i a1 a2 (by omega)]; exact F2.2.2.2.1 c i a1 a2 a3, fun i hi => by rw [e1 _ (by decide) (by decide)]; exact F2.2.2.2.2.1 i hi, fun c i a1 a2 a3 => by rw [e1 c (by omega) (by omega)]; exact F2.2.2.2.2.2 c i a1 a2 a3⟩, f, p, b1, b2, b3, b4, by rw [e4 _ (by decide)]; exact b5, b6, e5, by rw [e4 _ (by decide)]; exact b8, ?_⟩
  rw [e4 26 (by decide), e4 27 (by decide)]
  exact b9
/-- a scope ends -/
theorem sc_ap {T : Nat → Int32} : ∀ {Y G : List Nat}, sc_G T (Y ++ G) → sc_G T G
  | [], _, h => h
  | _ :: _, _, h => sc_ap h.2
theorem po_leave {hC' hM' : Nat → Nat → Int32} {Y : List Nat} {o' w' : Nat} (P : ps_O h0 g0 h1 g1 B N M rd hC gC hM gM k o n t w (Y ++ G)) (hY : G.length = w') (a : ∀ c, c ≠ 32 → hC' c = hC c) (a1 : ∀ x, x < 2 → hC' 32 x = hC 32 x) (a2 : hC' 32 2 = nI o') (a3 : hC' 32 3 = nI w') (b : ∀ c, c ≠ 73 → hM' c = hM c) (b2 : ∀ x, x ≠ 29 → x ≠ 32 → hM' 73 x = hM 73 x) (b3 : hM' 73 29 = nI o') (b4 : hM' 73 32 = nI w') (ho : o' ≤ 40) (hw : w' ≤ 4 + 2 * o') : ps_O h0 g0 h1 g1 B N M rd hC' gC hM' gM k o' n t w' G := by
  obtain ⟨F1, F2, p1, p2, p3, p4, p5, p6, p7⟩ := P
  have lw : w' ≤ w := by have := p4.1; rw [List.length_append] at this; omega
  refine ⟨pf_Cc F1 (fun c _ q => a c q) (by rw [a _ (by decide)]) (fun _ _ => rfl), pf_Mc F2 b (fun x z1 z2 z3 z4 z5 z6 z7 => b2 x z5 z6), ?_, ⟨by rw [a1 _ (by decide)]; exact p2.1, a2, a3, by rw [a1 _ (by decide)]; exact p2.2.2.2⟩, ⟨?_, ?_, b3, b4, ?_⟩, ⟨hY, ?_, fun i hi => ?_, fun x hx => p4.2.2.2 x (List.mem_append_right _ hx)⟩, ?_, ?_, ho, hw⟩
  · unfold at_C at p1 ⊢; rw [a _ (by decide)]; exact p1
  · rw [b2 _ (by decide) (by decide)]; exact p3.1
  · rw [b2 _ (by decide) (by decide)]; exact p3.2.1
  · rw [b2 _ (by decide) (by decide)]; exact p3.2.2.2.2
  · rw [a _ (by decide)]; exact sc_ap p4.2.1
  · rw [a _ (by decide), b _ (by decide)]; exact p4.2.2.1 i (by omega)
  · rw [a 3 (by decide), a 9 (by decide), a 10 (by decide), a 11 (by decide), b 86 (by decide), b 92 (by decide), b 93 (by decide), b 94 (by decide)]; exact p5
  · unfold nr rp_N at p6 ⊢
    rw [a 3 (by decide), a 12 (by decide), a 13 (by decide), a 14 (by decide), a 15 (by decide), a 16 (by decide), a 9 (by decide), b 79 (by decide), b 80 (by decide), b 81 (by decide), b 82 (by decide), b 83 (by decide), b 84 (by decide)]; exact p6
theorem ea_leave (d : Nat) {x : Int32} : am_call tb_P (d + 1) 197 [.ref 32, .int x] (pr_S, hC, gC) = some (none, (pr_S, am_si (am_si hC 32 2 (hC 32 2 - 1)) 32 3 x, gC)) := by
  rw [en_197, ht_197_0, ch_197_0]
/-- the innermost of a NAME -/
def fs (T : Nat → Int64) (v : Int64) : Nat → Option Nat
  | 0 => none
  | w + 1 => if T w = v then some w else fs T v w
theorem fs_lt {T : Nat → Int64} {v : Int64} : ∀ {w i : Nat}, fs T v w = some i → i < w ∧ T i = v
  | 0, i, h => by cases h
  | w + 1, i, h => by
    unfold fs at h
    split at h
    · next e => cases h; exact ⟨by omega, e⟩
    · have := fs_lt h; exact ⟨by omega, this.2⟩
theorem fs_cg {T T' : Nat → Int64} {v : Int64} : ∀ {w : Nat}, (∀ i, i < w → T' i = T i) → fs T' v w = fs T v w
  | 0, _ => rfl
  | w + 1, h => by
    unfold fs
    rw [h w (by omega), fs_cg (fun i hi => h i (by omega))]
def fs_r : Option Nat → Int32
  | none => -1
  | some i => nI i
theorem fi_loop (C : am_C) (v : Int64) : ∀ (q n : Nat), q ≤ 84 → q ≤ n → am_fwd C (am_run C tb_r201_0 n) tb_r201_1 12 [(3, .int (nI q - 1)), (0, .ref 32), (1, .long v)] [] (pr_S, hC, gC) = some (some (.int (fs_r (fs (gC 33) v q))), (pr_S, hC, gC)) := by
  intro q
  induction q with
  | zero =>
    intro n h1 h2
    rw [ht_201_1, ch_201_2]; (try simp +decide (disch := omega) only [ni_bF, nI_clamp, nI_add, pk_mul, dc_ltT, dc_ltF, dc_leT, dc_leF, dc_eqF, dc_neT, dn_eq, dn_ne, dn_lt, dn_ge, si_at, si_c, si_k, q_at_nI, q_put_nI, ne_eq, not_false_eq_true, not_true_eq_false, ↓reduceIte, v0_ltT, v0_ltF, v0_gtT, v0_gtF, v0_leT, v0_leF, v0_geT, v0_geF, v0_eqT, v0_eqF, v0_add, v0_dda, v0_mul, v0_lum, v0_sub, v0_bad, v0_cl]); rw [sk_201_2_35, ht_201_3, ch_201_3]
    rfl
  | succ q ih =>
    intro n h1 h2
    obtain ⟨n, rfl⟩ : ∃ n', n = n' + 1 := ⟨n - 1, by omega⟩
    have p := ih n (by omega) (by omega)
    have m1 : nI q + (-1) = nI q - 1 := by rw [Int32.sub_eq_add_neg]
    unfold fs
    by_cases c : gC 33 q = v
    · rw [if_pos c, nI_pred]
      rw [ht_201_1, ch_201_2]; (try simp +decide (disch := omega) only [ni_bF, nI_clamp, nI_add, pk_mul, dc_ltT, dc_ltF, dc_leT, dc_leF, dc_eqF, dc_neT, dn_eq, dn_ne, dn_lt, dn_ge, si_at, si_c, si_k, q_at_nI, q_put_nI, ne_eq, not_false_eq_true, not_true_eq_false, ↓reduceIte, v0_ltT, v0_ltF, v0_gtT, v0_gtF, v0_leT, v0_leF, v0_geT, v0_geF, v0_eqT, v0_eqF, v0_add, v0_dda, v0_mul, v0_lum, v0_sub, v0_bad, v0_cl]); rw [if_neg (fun z => (lg_ne.mp z) c)]
      rfl
    · rw [if_neg c, nI_pred]
      rw [ht_201_1, ch_201_2]; (try simp +decide (disch := omega) only [ni_bF, nI_clamp, nI_add, pk_mul, dc_ltT, dc_ltF, dc_leT, dc_leF, dc_eqF, dc_neT, dn_eq, dn_ne, dn_lt, dn_ge, si_at, si_c, si_k, q_at_nI, q_put_nI, ne_eq, not_false_eq_true, not_true_eq_false, ↓reduceIte, v0_ltT, v0_ltF, v0_gtT, v0_gtF, v0_leT, v0_leF, v0_geT, v0_geF, v0_eqT, v0_eqF, v0_add, v0_dda, v0_mul, v0_lum, v0_sub, v0_bad, v0_cl]); rw [if_pos (lg_ne.mpr c), ht_201_2, ch_201_4]; (try simp +decide (disch := omega) only [ni_bF, nI_clamp, nI_add, pk_mul, dc_ltT, dc_ltF, dc_leT, dc_leF, dc_eqF, dc_neT, dn_eq, dn_ne, dn_lt, dn_ge, si_at, si_c, si_k, q_at_nI, q_put_nI, ne_eq, not_false_eq_true, not_true_eq_false, ↓reduceIte, v0_ltT, v0_ltF, v0_gtT, v0_gtF, v0_leT, v0_leF, v0_geT, v0_geF, v0_eqT, v0_eqF, v0_add, v0_dda, v0_mul, v0_lum, v0_sub, v0_bad, v0_cl]); rw [sk_201_3_12, m1, lp_201_12]
      exact p
theorem ea_findS (d : Nat) (v : Int64) (h : hC 32 3 = nI w) (hw : w ≤ 84) : am_call tb_P (d + 1) 201 [.ref 32, .long v] (pr_S, hC, gC) = some (some (.int (fs_r (fs (gC 33) v w))), (pr_S, hC, gC)) := by
  have k := fi_loop (hC := hC) (gC := gC) (am_call tb_P d) v w 999999 hw (by omega)
  rw [en_201, ht_201_0, ch_201_0, h, if_neg (li_ngt (by omega) (by decide)), ch_201_1]
  exact k
/-- the same in the reference -/
def fs_t (T : Nat → Int32) : Option Nat → Int32
  | none => -1
  | some i => T i
theorem fm_loop (C : am_C) (hT : ∀ i, i < w → hM 96 i ≠ -1) (h6 : hM 73 6 = nI k) (hk : k < 2001) (hw : w < 200) (r : Option Value × am_G) : ∀ (q n : Nat), q ≤ w → q ≤ n → (∀ x2 : Int32, am_fwd C (am_run C tb_r43_0 0) tb_r43_5 99 [(2, .int x2), (1, .int (fs_t (hM 96) (fs (gM 95) (gM 78 k) q))), (0, .ref 73)] [] (pr_S, hM, gM) = some r) → am_fwd C (am_run C tb_r43_0 n) tb_r43_2 54 [(2, .int (nI q - 1)), (1, .int (-1)), (0, .ref 73)] [] (pr_S, hM, gM) = some r := by
  intro q
  induction q with
  | zero =>
    intro n h1 h2 h3
    rw [ht_43_2, ch_43_6]; (try simp +decide (disch := omega) only [ni_bF, nI_clamp, nI_add, pk_mul, dc_ltT, dc_ltF, dc_leT, dc_leF, dc_eqF, dc_neT, dn_eq, dn_ne, dn_lt, dn_ge, si_at, si_c, si_k, q_at_nI, q_put_nI, ne_eq, not_false_eq_true, not_true_eq_false, ↓reduceIte, v0_ltT, v0_ltF, v0_gtT, v0_gtF, v0_leT, v0_leF, v0_geT, v0_geF, v0_eqT, v0_eqF, v0_add, v0_dda, v0_mul, v0_lum, v0_sub, v0_bad, v0_cl]); rw [sk_43_3_99]
    exact mo_f (Nat.zero_le _) (by repeat (first | exact trivial | refine And.intro rfl ?_)) rfl (h3 _)
  | succ q ih =>
    intro n h1 h2 h3
    obtain ⟨n, rfl⟩ : ∃ n', n = n' + 1 := ⟨n - 1, by omega⟩
    have m1 : nI q + (-1) = nI q - 1 := by rw [Int32.sub_eq_add_neg]
    unfold fs at h3
    by_cases c : gM 95 q = gM 78 k
    · rw [if_pos c] at h3
      have nz := hT q (by omega)
      rw [nI_pred]
      rw [ht_43_2, ch_43_6]; (try simp +decide (disch := omega) only [ni_bF, nI_clamp, nI_add, pk_mul, dc_ltT, dc_ltF, dc_leT, dc_leF, dc_eqF, dc_neT, dn_eq, dn_ne, dn_lt, dn_ge, si_at, si_c, si_k, q_at_nI, q_put_nI, ne_eq, not_false_eq_true, not_true_eq_false, ↓reduceIte, v0_ltT, v0_ltF, v0_gtT, v0_gtF, v0_leT, v0_leF, v0_geT, v0_geF, v0_eqT, v0_eqF, v0_add, v0_dda, v0_mul, v0_lum, v0_sub, v0_bad, v0_cl, h6]); rw [if_neg (fun z => (lg_ne.mp z) c), sk_43_3_92, ht_43_4, ch_43_10]; (try simp +decide (disch := omega) only [ni_bF, nI_clamp, nI_add, pk_mul, dc_ltT, dc_ltF, dc_leT, dc_leF, dc_eqF, dc_neT, dn_eq, dn_ne, dn_lt, dn_ge, si_at, si_c, si_k, q_at_nI, q_put_nI, ne_eq, not_false_eq_true, not_true_eq_false, ↓reduceIte, v0_ltT, v0_ltF, v0_gtT, v0_gtF, v0_leT, v0_leF, v0_geT, v0_geF, v0_eqT, v0_eqF, v0_add, v0_dda, v0_mul, v0_lum, v0_sub, v0_bad, v0_cl, h6]); rw [sk_43_5_54, m1, lp_43_54]
      have e : fs_t (hM 96) (some q) = hM 96 q := rfl
      rw [e] at h3
      by_cases c2 : nI q - 1 < 0
      · rw [ht_43_2, ch_43_6, if_pos c2, sk_43_3_99]
        exact mo_f (Nat.zero_le _) (by repeat (first | exact trivial | refine And.intro rfl ?_)) rfl (h3 _)
      · rw [ht_43_2, ch_43_6, if_neg c2, if_pos nz, sk_43_3_99]
        exact mo_f (Nat.zero_le _) (by repeat (first | exact trivial | refine And.intro rfl ?_)) rfl (h3 _)
    · rw [if_neg c] at h3
      rw [nI_pred]
      rw [ht_43_2, ch_43_6]; (try simp +decide (disch := omega) only [ni_bF, nI_clamp, nI_add, pk_mul, dc_ltT, dc_ltF, dc_leT, dc_leF, dc_eqF, dc_neT, dn_eq, dn_ne, dn_lt, dn_ge, si_at, si_c, si_k, q_at_nI, q_put_nI, ne_eq, not_false_eq_true, not_true_eq_false, ↓reduceIte, v0_ltT, v0_ltF, v0_gtT, v0_gtF, v0_leT, v0_leF, v0_geT, v0_geF, v0_eqT, v0_eqF, v0_add, v0_dda, v0_mul, v0_lum, v0_sub, v0_bad, v0_cl, h6]); rw [if_pos (lg_ne.mpr c), ht_43_3, ch_43_9, ht_43_4, ch_43_10]; (try simp +decide (disch := omega) only [ni_bF, nI_clamp, nI_add, pk_mul, dc_ltT, dc_ltF, dc_leT, dc_leF, dc_eqF, dc_neT, dn_eq, dn_ne, dn_lt, dn_ge, si_at, si_c, si_k, q_at_nI, q_put_nI, ne_eq, not_false_eq_true, not_true_eq_false, ↓reduceIte, v0_ltT, v0_ltF, v0_gtT, v0_gtF, v0_leT, v0_leF, v0_geT, v0_geF, v0_eqT, v0_eqF, v0_add, v0_dda, v0_mul, v0_lum, v0_sub, v0_bad, v0_cl, h6]); rw [sk_43_5_54, m1, lp_43_54]
      exact ih n (by omega) (by omega) h3
end OS
