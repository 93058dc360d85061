/-! the reference's read up to its DEFS -/
section SB
variable {hM : Nat → Nat → Int32} {gM : Nat → Nat → Int64} {B : Nat → Nat} {N hf : Nat}
theorem mr_start (d : Nat) (T : tx_M hM B N) (hhf : hf < 2) (h7 : hM 73 7 = nI hf) : ∃ (h1 : Nat → Nat → Int32) (g1 : Nat → Nat → Int64) (M : Nat), ct_F hM h1 gM g1 ∧ ct_S h1 g1 B N M ∧ tp B N M = N ∧ M ≤ 2000 ∧ h1 75 M = 0 ∧ h1 76 M = nI N ∧ h1 73 6 = 0 ∧ ∀ R, am_fwd (am_call tb_P (d + 2)) (am_run (am_call tb_P (d + 2)) tb_r46_0 999999) tb_r46_1 54 [(0, .ref 73)] [] (pr_S, am_si (am_si (am_si (am_si (am_si (am_si (am_si h1 73 1 0) 73 25 (nI (1 - hf))) 73 26 0) 85 (1 - hf) 0) 86 (1 - hf) 0) 73 24 0) 73 29 0, g1) = some R → am_call tb_P (d + 3) 46 [.ref 73] (pr_S, hM, gM) = some R := by
  obtain ⟨h1, g1, M, u1, u2, u3, u4, u5, u6, u7, u8⟩ := em_cut (hl := gM) d T
  have e7 : h1 73 7 = nI hf := by rw [u2.2.1 _ (by decide)]; exact h7
  have es : (1 : Int32) - nI hf = nI (1 - hf) := by rcases (by omega : hf = 0 ∨ hf = 1) with rfl | rfl <;> rfl
  refine ⟨h1, g1, M, u2, u3, u4, u5, u6, u7, u8, fun R hR => ?_⟩
  rw [en_46, ht_46_0, ch_46_0, u1, ev_rn, ch_46_1]; try simp +decide (disch := omega) only [ni_bF, nI_clamp, nI_add, pk_mul, dc_ltT, dc_ltF, dc_leT, dc_leF, dc_eqF, dc_neT, dn_eq, dn_ne, dn_lt, dn_ge, si_at, si_c, si_k, q_at_nI, q_put_nI, ne_eq, not_false_eq_true, not_true_eq_false, ↓reduceIte, v0_ltT, v0_ltF, v0_gtT, v0_gtF, v0_leT, v0_leF, v0_geT, v0_geF, v0_eqT, v0_eqF, v0_add, v0_dda, v0_mul, v0_lum, v0_sub, v0_bad, v0_cl, e7, es]
  exact hR
end SB
theorem ea_rclear (d : Nat) (h : Nat → Nat → Int32) (hl : Nat → Nat → Int64) : am_call tb_P (d + 2) 212 [.ref 35] (pr_S, h, hl) = some (none, (pr_S, am_si (fl_h h 36 0 192) 35 5 1, hl)) := by
  rw [en_212, ht_212_0, ch_212_0, fl_36 _ _ _ _, ev_rn, ch_212_1]
