/-! both parsers side by side: atoms, applications, products, sums, comparisons -/
def cnC (mC mM : Nat) (h0 : Nat → Nat → Int32) (g0 : Nat → Nat → Int64) (h1 : Nat → Nat → Int32) (g1 : Nat → Nat → Int64) (B : Nat → Nat) (N M rd D o e fr : Nat) : Prop := ∀ (hC : Nat → Nat → Int32) (gC : Nat → Nat → Int64) (hM : Nat → Nat → Int32) (gM : Nat → Nat → Int64) (k n t w : Nat) (G : List Nat) (π : Nat), ps_O h0 g0 h1 g1 B N M rd hC gC hM gM k o n t w G → 3 * (n + π) ≤ qk B N k → ∃ (rC rM : Int32) (hC' : Nat → Nat → Int32) (gC' : Nat → Nat → Int64) (hM' : Nat → Nat → Int32) (gM' : Nat → Nat → Int64), am_call tb_P e mC [.ref 32] (pr_S, hC, gC) = some (some (.int rC), (pr_S, hC', gC')) ∧ am_call tb_P e mM [.ref 73] (pr_S, hM, gM) = some (some (.int rM), (pr_S, hM', gM')) ∧ ps_R h0 g0 h1 g1 B N M rd D hC n t w o π fr (40 - o) G rC rM hC' gC' hM' gM'
section LO
variable {h0 h1 hC hM : Nat → Nat → Int32} {g0 g1 gC gM : Nat → Nat → Int64} {B : Nat → Nat} {N M rd k o n t w π D e s : Nat} {G : List Nat}
theorem ct_atom (X : px h0 h1 g1 B N M rd) (IH : o < 40 → exC h0 g0 h1 g1 B N M rd D (o + 1) (e + 10)) (P : ps_O h0 g0 h1 g1 B N M rd hC gC hM gM k o n t w G) (J : 3 * (n + π) ≤ qk B N k + s) (hs : s = 0 ∨ (s = 3 ∧ ga B N k ≠ 3)) : ∃ (rC rM : Int32) (hC' : Nat → Nat → Int32) (gC' : Nat → Nat → Int64) (hM' : Nat → Nat → Int32) (gM' : Nat → Nat → Int64), am_call tb_P (e + 12) 192 [.ref 32] (pr_S, hC, gC) = some (some (.int rC), (pr_S, hC', gC')) ∧ am_call tb_P (e + 12) 43 [.ref 73] (pr_S, hM, gM) = some (some (.int rM), (pr_S, hM', gM')) ∧ ps_R h0 g0 h1 g1 B N M rd D hC n t w o π (5 * (40 - o) + 1) (40 - o) G rC rM hC' gC' hM' gM' := by
  by_cases c3 : tok B N (tp B N k) = 3
  · exact ct_num e X P J hs c3 _ _
  by_cases c2 : tok B N (tp B N k) = 2
  · exact ct_nam e X P J hs c2 _ _
  obtain ⟨F1, F2, P'⟩ := id P
  have hk : k < 2001 := by have := X.2.2.2.1; have := P'.1.2.2; omega
  obtain ⟨tk, tpl, _, _⟩ := px_t X F2 P'.1.2.2
  by_cases c4 : tok B N (tp B N k) = 40
  · obtain ⟨rC, rM, hC', gC', hM', gM', u1, u2, u3⟩ := ct_br X IH P J (by omega) c4
    refine ⟨rC, rM, hC', gC', hM', gM', ?_, u2, u3⟩
    have tc : hC 1 1 = 40 := by rw [P'.1.1.2.1, c4]; rfl
    rw [en_192, ht_192_0, ch_192_0]; (try simp +decide (disch := omega) only [ni_bF, nI_clamp, nI_add, pk_mul, dc_ltT, dc_ltF, dc_leT, dc_leF, dc_eqF, dc_neT, dn_eq, dn_ne, dn_lt, dn_ge, si_at, si_c, si_k, q_at_nI, q_put_nI, ne_eq, not_false_eq_true, not_true_eq_false, ↓reduceIte, v0_ltT, v0_ltF, v0_gtT, v0_gtF, v0_leT, v0_leF, v0_geT, v0_geF, v0_eqT, v0_eqF, v0_add, v0_dda, v0_mul, v0_lum, v0_sub, v0_bad, v0_cl, v40_eqT, v40_eqF, v258_eqT, v258_eqF, v259_eqT, v259_eqF, tc]); rw [ht_192_1, ch_192_1, u1, ev_rs, ch_192_5]
  · have e6 := P'.2.2.1.1
    have e26 := P'.2.2.1.2.1
    have tl := tok_l X (tp B N k)
    have i3 := em_isF (gM := gM) (v := 3) (e + 10) e6 hk (fun _ => by rw [tk]; exact fun q => c3 ((nI_eq (b := 3) (by omega) (by decide)).mp q))
    have i2 := em_isF (gM := gM) (v := 2) (e + 10) e6 hk (fun _ => by rw [tk]; exact fun q => c2 ((nI_eq (b := 2) (by omega) (by decide)).mp q))
    have i4 := em_isF (gM := gM) (v := 40) (e + 10) e6 hk (fun _ => by rw [tk]; exact fun q => c4 ((nI_eq (b := 40) (by omega) (by decide)).mp q))
    have od := em_odd (gM := gM) (e + 9) e26 e6 hk (by rw [tk]; exact fun q => P'.1.2.1 ((nI_eq (b := 1) (by omega) (by decide)).mp q))
    refine ⟨-1, 0, xfl hC 2 (hC 1 2), gC, xfm2 hM 2 (hM 76 k), gM, ?_, ?_, Or.inr ⟨k, n, ps_fl X P (by decide), by omega⟩⟩
    · have n1 : hC 1 1 ≠ 40 := by rw [P'.1.1.2.1]; exact fun q => c4 ((cl_e (b := 40) tl (by decide)).mp q)
      have n2 : hC 1 1 ≠ 258 := by rw [P'.1.1.2.1]; exact fun q => c2 ((cl_e (b := 2) tl (by decide)).mp q)
      have n3 : hC 1 1 ≠ 259 := by rw [P'.1.1.2.1]; exact fun q => c3 ((cl_e (b := 3) tl (by decide)).mp q)
      rw [en_192, ht_192_0, ch_192_0, if_neg n1, if_neg n2, if_neg n3, sk_192_1_71, ht_192_4, ch_192_4, ea_pfail _ P'.2.1.1, ev_rn, ch_192_8]
    · rw [en_43, ht_43_0, ch_43_0, i3, ev_rs, ch_43_1]; (try simp +decide (disch := omega) only [ni_bF, nI_clamp, nI_add, pk_mul, dc_ltT, dc_ltF, dc_leT, dc_leF, dc_eqF, dc_neT, dn_eq, dn_ne, dn_lt, dn_ge, si_at, si_c, si_k, q_at_nI, q_put_nI, ne_eq, not_false_eq_true, not_true_eq_false, ↓reduceIte, v0_ltT, v0_ltF, v0_gtT, v0_gtF, v0_leT, v0_leF, v0_geT, v0_geF, v0_eqT, v0_eqF, v0_add, v0_dda, v0_mul, v0_lum, v0_sub, v0_bad, v0_cl, v1_ltT, v1_ltF, v1_gtT, v1_gtF, v1_leT, v1_leF, v1_geT, v1_geF, v1_eqT, v1_eqF, v1_add, v1_dda, v1_mul, v1_lum, v1_sub, v1_bad, v1_cl]); rw [ht_43_1, ch_43_2, i2, ev_rs, ch_43_4]; (try simp +decide (disch := omega) only [ni_bF, nI_clamp, nI_add, pk_mul, dc_ltT, dc_ltF, dc_leT, dc_leF, dc_eqF, dc_neT, dn_eq, dn_ne, dn_lt, dn_ge, si_at, si_c, si_k, q_at_nI, q_put_nI, ne_eq, not_false_eq_true, not_true_eq_false, ↓reduceIte, v0_ltT, v0_ltF, v0_gtT, v0_gtF, v0_leT, v0_leF, v0_geT, v0_geF, v0_eqT, v0_eqF, v0_add, v0_dda, v0_mul, v0_lum, v0_sub, v0_bad, v0_cl, v1_ltT, v1_ltF, v1_gtT, v1_gtF, v1_leT, v1_leF, v1_geT, v1_geF, v1_eqT, v1_eqF, v1_add, v1_dda, v1_mul, v1_lum, v1_sub, v1_bad, v1_cl]); rw [sk_43_2_150, ht_43_8, ch_43_5, i4, ev_rs, ch_43_7]; (try simp +decide (disch := omega) only [ni_bF, nI_clamp, nI_add, pk_mul, dc_ltT, dc_ltF, dc_leT, dc_leF, dc_eqF, dc_neT, dn_eq, dn_ne, dn_lt, dn_ge, si_at, si_c, si_k, q_at_nI, q_put_nI, ne_eq, not_false_eq_true, not_true_eq_false, ↓reduceIte, v0_ltT, v0_ltF, v0_gtT, v0_gtF, v0_leT, v0_leF, v0_geT, v0_geF, v0_eqT, v0_eqF, v0_add, v0_dda, v0_mul, v0_lum, v0_sub, v0_bad, v0_cl]); rw [od, ev_rn, ch_43_12]
theorem ea_begins (d : Nat) (X : px h0 h1 g1 B N M rd) (P : ps_O h0 g0 h1 g1 B N M rd hC gC hM gM k o n t w G) : am_call tb_P (d + 1) 191 [.ref 32] (pr_S, hC, gC) = some (some (.int (if tok B N (tp B N k) = 2 ∨ tok B N (tp B N k) = 3 ∨ tok B N (tp B N k) = 40 then 1 else 0)), (pr_S, hC, gC)) := by
  have tl := tok_l X (tp B N k)
  have tc := P.2.2.1.1.2.1
  by_cases c2 : tok B N (tp B N k) = 2
  · have n2 : hC 1 1 = 258 := by rw [tc, c2]; rfl
    rw [if_pos (Or.inl c2)]
    rw [en_191, ht_191_0, ch_191_0]; (try simp +decide (disch := omega) only [ni_bF, nI_clamp, nI_add, pk_mul, dc_ltT, dc_ltF, dc_leT, dc_leF, dc_eqF, dc_neT, dn_eq, dn_ne, dn_lt, dn_ge, si_at, si_c, si_k, q_at_nI, q_put_nI, ne_eq, not_false_eq_true, not_true_eq_false, ↓reduceIte, v0_ltT, v0_ltF, v0_gtT, v0_gtF, v0_leT, v0_leF, v0_geT, v0_geF, v0_eqT, v0_eqF, v0_add, v0_dda, v0_mul, v0_lum, v0_sub, v0_bad, v0_cl, v40_ltT, v40_ltF, v40_gtT, v40_gtF, v40_leT, v40_leF, v40_geT, v40_geF, v40_eqT, v40_eqF, v40_add, v40_dda, v40_mul, v40_lum, v40_sub, v40_bad, v40_cl, v258_ltT, v258_ltF, v258_gtT, v258_gtF, v258_leT, v258_leF, v258_geT, v258_geF, v258_eqT, v258_eqF, v258_add, v258_dda, v258_mul, v258_lum, v258_sub, v258_bad, v258_cl, v259_ltT, v259_ltF, v259_gtT, v259_gtF, v259_leT, v259_leF, v259_geT, v259_geF, v259_eqT, v259_eqF, v259_add, v259_dda, v259_mul, v259_lum, v259_sub, v259_bad, v259_cl]); rw [if_pos n2, ht_191_1, ch_191_1, sk_191_2_43, ht_191_3, ch_191_3]; try simp +decide (disch := omega) only [ni_bF, nI_clamp, nI_add, pk_mul, dc_ltT, dc_ltF, dc_leT, dc_leF, dc_eqF, dc_neT, dn_eq, dn_ne, dn_lt, dn_ge, si_at, si_c, si_k, q_at_nI, q_put_nI, ne_eq, not_false_eq_true, not_true_eq_false, ↓reduceIte, v0_ltT, v0_ltF, v0_gtT, v0_gtF, v0_leT, v0_leF, v0_geT, v0_geF, v0_eqT, v0_eqF, v0_add, v0_dda, v0_mul, v0_lum, v0_sub, v0_bad, v0_cl, v1_ltT, v1_ltF, v1_gtT, v1_gtF, v1_leT, v1_leF, v1_geT, v1_geF, v1_eqT, v1_eqF, v1_add, v1_dda, v1_mul, v1_lum, v1_sub, v1_bad, v1_cl]
  have n2 : hC 1 1 ≠ 258 := by rw [tc]; exact fun q => c2 ((cl_e (b := 2) tl (by decide)).mp q)
  by_cases c3 : tok B N (tp B N k) = 3
  · have n3 : hC 1 1 = 259 := by rw [tc, c3]; rfl
    rw [if_pos (Or.inr (Or.inl c3))]
    rw [en_191, ht_191_0, ch_191_0]; (try simp +decide (disch := omega) only [ni_bF, nI_clamp, nI_add, pk_mul, dc_ltT, dc_ltF, dc_leT, dc_leF, dc_eqF, dc_neT, dn_eq, dn_ne, dn_lt, dn_ge, si_at, si_c, si_k, q_at_nI, q_put_nI, ne_eq, not_false_eq_true, not_true_eq_false, ↓reduceIte, v0_ltT, v0_ltF, v0_gtT, v0_gtF, v0_leT, v0_leF, v0_geT, v0_geF, v0_eqT, v0_eqF, v0_add, v0_dda, v0_mul, v0_lum, v0_sub, v0_bad, v0_cl, v40_ltT, v40_ltF, v40_gtT, v40_gtF, v40_leT, v40_leF, v40_geT, v40_geF, v40_eqT, v40_eqF, v40_add, v40_dda, v40_mul, v40_lum, v40_sub, v40_bad, v40_cl, v258_ltT, v258_ltF, v258_gtT, v258_gtF, v258_leT, v258_leF, v258_geT, v258_geF, v258_eqT, v258_eqF, v258_add, v258_dda, v258_mul, v258_lum, v258_sub, v258_bad, v258_cl, v259_ltT, v259_ltF, v259_gtT, v259_gtF, v259_leT, v259_leF, v259_geT, v259_geF, v259_eqT, v259_eqF, v259_add, v259_dda, v259_mul, v259_lum, v259_sub, v259_bad, v259_cl]); rw [if_neg n2, if_pos n3, ht_191_1, ch_191_1, sk_191_2_43, ht_191_3, ch_191_3]; try simp +decide (disch := omega) only [ni_bF, nI_clamp, nI_add, pk_mul, dc_ltT, dc_ltF, dc_leT, dc_leF, dc_eqF, dc_neT, dn_eq, dn_ne, dn_lt, dn_ge, si_at, si_c, si_k, q_at_nI, q_put_nI, ne_eq, not_false_eq_true, not_true_eq_false, ↓reduceIte, v0_ltT, v0_ltF, v0_gtT, v0_gtF, v0_leT, v0_leF, v0_geT, v0_geF, v0_eqT, v0_eqF, v0_add, v0_dda, v0_mul, v0_lum, v0_sub, v0_bad, v0_cl, v1_ltT, v1_ltF, v1_gtT, v1_gtF, v1_leT, v1_leF, v1_geT, v1_geF, v1_eqT, v1_eqF, v1_add, v1_dda, v1_mul, v1_lum, v1_sub, v1_bad, v1_cl]
  have n3 : hC 1 1 ≠ 259 := by rw [tc]; exact fun q => c3 ((cl_e (b := 3) tl (by decide)).mp q)
  by_cases c4 : tok B N (tp B N k) = 40
  · have n4 : hC 1 1 = 40 := by rw [tc, c4]; rfl
    rw [if_pos (Or.inr (Or.inr c4))]
    rw [en_191, ht_191_0, ch_191_0]; (try simp +decide (disch := omega) only [ni_bF, nI_clamp, nI_add, pk_mul, dc_ltT, dc_ltF, dc_leT, dc_leF, dc_eqF, dc_neT, dn_eq, dn_ne, dn_lt, dn_ge, si_at, si_c, si_k, q_at_nI, q_put_nI, ne_eq, not_false_eq_true, not_true_eq_false, ↓reduceIte, v0_ltT, v0_ltF, v0_gtT, v0_gtF, v0_leT, v0_leF, v0_geT, v0_geF, v0_eqT, v0_eqF, v0_add, v0_dda, v0_mul, v0_lum, v0_sub, v0_bad, v0_cl, v40_ltT, v40_ltF, v40_gtT, v40_gtF, v40_leT, v40_leF, v40_geT, v40_geF, v40_eqT, v40_eqF, v40_add, v40_dda, v40_mul, v40_lum, v40_sub, v40_bad, v40_cl, v258_ltT, v258_ltF, v258_gtT, v258_gtF, v258_leT, v258_leF, v258_geT, v258_geF, v258_eqT, v258_eqF, v258_add, v258_dda, v258_mul, v258_lum, v258_sub, v258_bad, v258_cl, v259_ltT, v259_ltF, v259_gtT, v259_gtF, v259_leT, v259_leF, v259_geT, v259_geF, v259_eqT, v259_eqF, v259_add, v259_dda, v259_mul, v259_lum, v259_sub, v259_bad, v259_cl]); rw [if_neg n2, if_neg n3, if_neg (fun q => q n4), ht_191_1, ch_191_1, sk_191_2_43, ht_191_3, ch_191_3]; try simp +decide (disch := omega) only [ni_bF, nI_clamp, nI_add, pk_mul, dc_ltT, dc_ltF, dc_leT, dc_leF, dc_eqF, dc_neT, dn_eq, dn_ne, dn_lt, dn_ge, si_at, si_c, si_k, q_at_nI, q_put_nI, ne_eq, not_false_eq_true, not_true_eq_false, ↓reduceIte, v0_ltT, v0_ltF, v0_gtT, v0_gtF, v0_leT, v0_leF, v0_geT, v0_geF, v0_eqT, v0_eqF, v0_add, v0_dda, v0_mul, v0_lum, v0_sub, v0_bad, v0_cl, v1_ltT, v1_ltF, v1_gtT, v1_gtF, v1_leT, v1_leF, v1_geT, v1_geF, v1_eqT, v1_eqF, v1_add, v1_dda, v1_mul, v1_lum, v1_sub, v1_bad, v1_cl]
  have n4 : hC 1 1 ≠ 40 := by rw [tc]; exact fun q => c4 ((cl_e (b := 40) tl (by decide)).mp q)
  rw [if_neg (by omega)]
  rw [en_191, ht_191_0, ch_191_0]; (try simp +decide (disch := omega) only [ni_bF, nI_clamp, nI_add, pk_mul, dc_ltT, dc_ltF, dc_leT, dc_leF, dc_eqF, dc_neT, dn_eq, dn_ne, dn_lt, dn_ge, si_at, si_c, si_k, q_at_nI, q_put_nI, ne_eq, not_false_eq_true, not_true_eq_false, ↓reduceIte, v0_ltT, v0_ltF, v0_gtT, v0_gtF, v0_leT, v0_leF, v0_geT, v0_geF, v0_eqT, v0_eqF, v0_add, v0_dda, v0_mul, v0_lum, v0_sub, v0_bad, v0_cl, v40_ltT, v40_ltF, v40_gtT, v40_gtF, v40_leT, v40_leF, v40_geT, v40_geF, v40_eqT, v40_eqF, v40_add, v40_dda, v40_mul, v40_lum, v40_sub, v40_bad, v40_cl, v258_ltT, v258_ltF, v258_gtT, v258_gtF, v258_leT, v258_leF, v258_geT, v258_geF, v258_eqT, v258_eqF, v258_add, v258_dda, v258_mul, v258_lum, v258_sub, v258_bad, v258_cl, v259_ltT, v259_ltF, v259_gtT, v259_gtF, v259_leT, v259_leF, v259_geT, v259_geF, v259_eqT, v259_eqF, v259_add, v259_dda, v259_mul, v259_lum, v259_sub, v259_bad, v259_cl]); rw [if_neg n2, if_neg n3, if_pos n4, sk_191_1_42, ht_191_2, ch_191_2, ht_191_3, ch_191_3]; try simp +decide (disch := omega) only [ni_bF, nI_clamp, nI_add, pk_mul, dc_ltT, dc_ltF, dc_leT, dc_leF, dc_eqF, dc_neT, dn_eq, dn_ne, dn_lt, dn_ge, si_at, si_c, si_k, q_at_nI, q_put_nI, ne_eq, not_false_eq_true, not_true_eq_false, ↓reduceIte, v0_ltT, v0_ltF, v0_gtT, v0_gtF, v0_leT, v0_leF, v0_geT, v0_geF, v0_eqT, v0_eqF, v0_add, v0_dda, v0_mul, v0_lum, v0_sub, v0_bad, v0_cl, v1_ltT, v1_ltF, v1_gtT, v1_gtF, v1_leT, v1_leF, v1_geT, v1_geF, v1_eqT, v1_eqF, v1_add, v1_dda, v1_mul, v1_lum, v1_sub, v1_bad, v1_cl]
/-- the reference asks for a token -/
theorem ps_is (d : Nat) {τ : Nat} (X : px h0 h1 g1 B N M rd) (P : ps_O h0 g0 h1 g1 B N M rd hC gC hM gM k o n t w G) (hτ : τ < 256) : am_call tb_P (d + 1) 27 [.ref 73, .int (nI τ)] (pr_S, hM, gM) = some (some (.int (if tok B N (tp B N k) = τ then 1 else 0)), (pr_S, hM, gM)) := by
  obtain ⟨F1, F2, P'⟩ := id P
  have hk : k < 2001 := by have := X.2.2.2.1; have := P'.1.2.2; omega
  obtain ⟨tk, tpl, _, _⟩ := px_t X F2 P'.1.2.2
  have tl := tok_l X (tp B N k)
  by_cases c : tok B N (tp B N k) = τ
  · rw [if_pos c]; exact em_isT d P'.2.2.1.2.1 P'.2.2.1.1 hk (by rw [tk, c])
  · rw [if_neg c]; exact em_isF d P'.2.2.1.1 hk (fun _ => by rw [tk]; exact fun q => c ((nI_eq (by omega) (by omega)).mp q))
/-- a chain of two's: the left part is the last NODE -/
def lo_S (h0 : Nat → Nat → Int32) (g0 : Nat → Nat → Int64) (h1 : Nat → Nat → Int32) (g1 : Nat → Nat → Int64) (B : Nat → Nat) (N M rd D : Nat) (K9 : Prop → Prop) (hC0 : Nat → Nat → Int32) (n t w o π fr gr : Nat) (G : List Nat) (rC rM : Int32) (hC : Nat → Nat → Int32) (gC : Nat → Nat → Int64) (hM : Nat → Nat → Int32) (gM : Nat → Nat → Int64) (k' n' t' : Nat) : Prop := ps_O h0 g0 h1 g1 B N M rd hC gC hM gM k' o n' t' w G ∧ 3 * (n' + π) ≤ qk B N k' ∧ n < n' ∧ t ≤ t' ∧ rC = nI (n' - 1) ∧ rM = nI (2900 * rd + (n' - 1)) ∧ (∃ f1, wfx hC f1 gr (n' - 1) n t t' G ∧ f1 ≤ fr ∧ K9 (hC 12 (n' - 1) ≠ 9 → f1 < fr)) ∧ gw hC0 hC n t t' D ∧ ga B N k' ≠ 3

theorem al_loop (X : px h0 h1 g1 B N M rd) (IH : o < 40 → exC h0 g0 h1 g1 B N M rd D (o + 1) (e + 10)) (hC0 : Nat → Nat → Int32) : ∀ (q i nC nM : Nat) (hC : Nat → Nat → Int32) (gC : Nat → Nat → Int64) (hM : Nat → Nat → Int32) (gM : Nat → Nat → Int64) (rC0 rM0 : Int32) (k' n' t' : Nat), 2700 ≤ q + n' → 2 * i ≤ n' → q ≤ nC → q ≤ nM → lo_S h0 g0 h1 g1 B N M rd D (fun p => p) hC0 n t w o π (5 * (40 - o) + 2) (40 - o) G rC0 rM0 hC gC hM gM k' n' t' ∨ ps_D h0 g0 h1 g1 B N M rd hC gC hM gM w π →
    ∃ (rC rM : Int32) (hC' : Nat → Nat → Int32) (gC' : Nat → Nat → Int64) (hM' : Nat → Nat → Int32) (gM' : Nat → Nat → Int64), am_fwd (am_call tb_P (e + 12)) (am_run (am_call tb_P (e + 12)) tb_r190_0 nC) tb_r190_1 7 [(2, .int (nI i)), (1, .int rC0), (0, .ref 32)] [] (pr_S, hC, gC) = some (some (.int rC), (pr_S, hC', gC')) ∧ am_fwd (am_call tb_P (e + 12)) (am_run (am_call tb_P (e + 12)) tb_r42_0 nM) tb_r42_1 5 [(1, .int rM0), (0, .ref 73)] [] (pr_S, hM, gM) = some (some (.int rM), (pr_S, hM', gM')) ∧ ps_R h0 g0 h1 g1 B N M rd D hC0 n t w o π (5 * (40 - o) + 2) (40 - o) G rC rM hC' gC' hM' gM' := by
  have hN := X.2.2.2.2.2.2.2.2
  intro q
  induction q with
  | zero =>
    intro i nC nM hC gC hM gM rC0 rM0 k' n' t' h1' h2 h3 h4 S
    rcases S with S | ⟨k, n'', P, J⟩
    · have := qk_N (B := B) (k := k') hN
      have := S.2.1
      omega
    · obtain ⟨c1, c2⟩ := cf_0 P
      have b0 := cf_begins (hC := hC) (gC := gC) (e + 11) c2
      have i3 : am_call tb_P (e + 12) 27 [.ref 73, .int 3] (pr_S, hM, gM) = some (some (.int 0), (pr_S, hM, gM)) := ps_isB (τ := 3) (e + 11) X P (by decide) (by decide)
      have i2 : am_call tb_P (e + 12) 27 [.ref 73, .int 2] (pr_S, hM, gM) = some (some (.int 0), (pr_S, hM, gM)) := ps_isB (τ := 2) (e + 11) X P (by decide) (by decide)
      have i4 : am_call tb_P (e + 12) 27 [.ref 73, .int 40] (pr_S, hM, gM) = some (some (.int 0), (pr_S, hM, gM)) := ps_isB (τ := 40) (e + 11) X P (by decide) (by decide)
      refine ⟨rC0, rM0, hC, gC, hM, gM, ?_, ?_, Or.inr ⟨k, n'', P, J⟩⟩
      · by_cases ci : (2000 : Int32) < nI i
        · rw [ht_190_1, ch_190_2, if_pos ci, ht_190_2, ch_190_3]
        · rw [ht_190_1, ch_190_2, if_neg ci, b0, ev_rs, ch_190_4, if_pos rfl, ht_190_2, ch_190_3]
      · rw [ht_42_1, ch_42_2, i2, ev_rs, ch_42_3]; (try simp +decide (disch := omega) only [ni_bF, nI_clamp, nI_add, pk_mul, dc_ltT, dc_ltF, dc_leT, dc_leF, dc_eqF, dc_neT, dn_eq, dn_ne, dn_lt, dn_ge, si_at, si_c, si_k, q_at_nI, q_put_nI, ne_eq, not_false_eq_true, not_true_eq_false, ↓reduceIte, v0_ltT, v0_ltF, v0_gtT, v0_gtF, v0_leT, v0_leF, v0_geT, v0_geF, v0_eqT, v0_eqF, v0_add, v0_dda, v0_mul, v0_lum, v0_sub, v0_bad, v0_cl]); rw [i3, ev_rs, ch_42_5]; (try simp +decide (disch := omega) only [ni_bF, nI_clamp, nI_add, pk_mul, dc_ltT, dc_ltF, dc_leT, dc_leF, dc_eqF, dc_neT, dn_eq, dn_ne, dn_lt, dn_ge, si_at, si_c, si_k, q_at_nI, q_put_nI, ne_eq, not_false_eq_true, not_true_eq_false, ↓reduceIte, v0_ltT, v0_ltF, v0_gtT, v0_gtF, v0_leT, v0_leF, v0_geT, v0_geF, v0_eqT, v0_eqF, v0_add, v0_dda, v0_mul, v0_lum, v0_sub, v0_bad, v0_cl]); rw [i4, ev_rs, ch_42_7]; (try simp +decide (disch := omega) only [ni_bF, nI_clamp, nI_add, pk_mul, dc_ltT, dc_ltF, dc_leT, dc_leF, dc_eqF, dc_neT, dn_eq, dn_ne, dn_lt, dn_ge, si_at, si_c, si_k, q_at_nI, q_put_nI, ne_eq, not_false_eq_true, not_true_eq_false, ↓reduceIte, v0_ltT, v0_ltF, v0_gtT, v0_gtF, v0_leT, v0_leF, v0_geT, v0_geF, v0_eqT, v0_eqF, v0_add, v0_dda, v0_mul, v0_lum, v0_sub, v0_bad, v0_cl]); rw [sk_42_2_48, ht_42_3, ch_42_9]
  | succ q ih =>
    intro i nC nM hC gC hM gM rC0 rM0 k' n' t' h1' h2 h3 h4 S
    rcases S with S | ⟨k, n'', P, J⟩
    case inr =>
      obtain ⟨c1, c2⟩ := cf_0 P
      have b0 := cf_begins (hC := hC) (gC := gC) (e + 11) c2
      have i3 : am_call tb_P (e + 12) 27 [.ref 73, .int 3] (pr_S, hM, gM) = some (some (.int 0), (pr_S, hM, gM)) := ps_isB (τ := 3) (e + 11) X P (by decide) (by decide)
      have i2 : am_call tb_P (e + 12) 27 [.ref 73, .int 2] (pr_S, hM, gM) = some (some (.int 0), (pr_S, hM, gM)) := ps_isB (τ := 2) (e + 11) X P (by decide) (by decide)
      have i4 : am_call tb_P (e + 12) 27 [.ref 73, .int 40] (pr_S, hM, gM) = some (some (.int 0), (pr_S, hM, gM)) := ps_isB (τ := 40) (e + 11) X P (by decide) (by decide)
      refine ⟨rC0, rM0, hC, gC, hM, gM, ?_, ?_, Or.inr ⟨k, n'', P, J⟩⟩
      · by_cases ci : (2000 : Int32) < nI i
        · rw [ht_190_1, ch_190_2, if_pos ci, ht_190_2, ch_190_3]
        · rw [ht_190_1, ch_190_2, if_neg ci, b0, ev_rs, ch_190_4, if_pos rfl, ht_190_2, ch_190_3]
      · rw [ht_42_1, ch_42_2, i2, ev_rs, ch_42_3]; (try simp +decide (disch := omega) only [ni_bF, nI_clamp, nI_add, pk_mul, dc_ltT, dc_ltF, dc_leT, dc_leF, dc_eqF, dc_neT, dn_eq, dn_ne, dn_lt, dn_ge, si_at, si_c, si_k, q_at_nI, q_put_nI, ne_eq, not_false_eq_true, not_true_eq_false, ↓reduceIte, v0_ltT, v0_ltF, v0_gtT, v0_gtF, v0_leT, v0_leF, v0_geT, v0_geF, v0_eqT, v0_eqF, v0_add, v0_dda, v0_mul, v0_lum, v0_sub, v0_bad, v0_cl]); rw [i3, ev_rs, ch_42_5]; (try simp +decide (disch := omega) only [ni_bF, nI_clamp, nI_add, pk_mul, dc_ltT, dc_ltF, dc_leT, dc_leF, dc_eqF, dc_neT, dn_eq, dn_ne, dn_lt, dn_ge, si_at, si_c, si_k, q_at_nI, q_put_nI, ne_eq, not_false_eq_true, not_true_eq_false, ↓reduceIte, v0_ltT, v0_ltF, v0_gtT, v0_gtF, v0_leT, v0_leF, v0_geT, v0_geF, v0_eqT, v0_eqF, v0_add, v0_dda, v0_mul, v0_lum, v0_sub, v0_bad, v0_cl]); rw [i4, ev_rs, ch_42_7]; (try simp +decide (disch := omega) only [ni_bF, nI_clamp, nI_add, pk_mul, dc_ltT, dc_ltF, dc_leT, dc_leF, dc_eqF, dc_neT, dn_eq, dn_ne, dn_lt, dn_ge, si_at, si_c, si_k, q_at_nI, q_put_nI, ne_eq, not_false_eq_true, not_true_eq_false, ↓reduceIte, v0_ltT, v0_ltF, v0_gtT, v0_gtF, v0_leT, v0_leF, v0_geT, v0_geF, v0_eqT, v0_eqF, v0_add, v0_dda, v0_mul, v0_lum, v0_sub, v0_bad, v0_cl]); rw [sk_42_2_48, ht_42_3, ch_42_9]
    case inl =>
      obtain ⟨P, J, s1, s2, rfl, rfl, ⟨f1, wl, f1l, f19⟩, gwl, gal⟩ := S
      have qb := qk_N (B := B) (k := k') hN
      obtain ⟨nC, rfl⟩ : ∃ n', nC = n' + 1 := ⟨nC - 1, by omega⟩
      obtain ⟨nM, rfl⟩ : ∃ n', nM = n' + 1 := ⟨nM - 1, by omega⟩
      have b0 := ea_begins (e + 11) X P
      have i2 : am_call tb_P (e + 12) 27 [.ref 73, .int 2] (pr_S, hM, gM) = _ := ps_is (τ := 2) (e + 11) X P (by decide)
      have i3 : am_call tb_P (e + 12) 27 [.ref 73, .int 3] (pr_S, hM, gM) = _ := ps_is (τ := 3) (e + 11) X P (by decide)
      have i4 : am_call tb_P (e + 12) 27 [.ref 73, .int 40] (pr_S, hM, gM) = _ := ps_is (τ := 40) (e + 11) X P (by decide)
      by_cases cb : tok B N (tp B N k') = 2 ∨ tok B N (tp B N k') = 3 ∨ tok B N (tp B N k') = 40
      · rw [if_pos cb] at b0
        obtain ⟨rC1, rM1, hC1, gC1, hM1, gM1, u1, u2, R⟩ := ct_atom (π := π + 1) (s := 3) X IH P (by omega) (Or.inr ⟨rfl, gal⟩)
        -- the new NODE
        have step : ∃ (rC2 rM2 : Int32) (hC2 hM2 : Nat → Nat → Int32) (k2 n2 t2 : Nat), am_call tb_P (e + 12) 199 [.ref 32, .int 9, .int (-1), .int (nI (n' - 1)), .int rC1] (pr_S, hC1, gC1) = some (some (.int rC2), (pr_S, hC2, gC1)) ∧ am_call tb_P (e + 12) 30 [.ref 73, .int 22, .int (nI (2900 * rd + (n' - 1))), .int rM1, .int 0] (pr_S, hM1, gM1) = some (some (.int rM2), (pr_S, hM2, gM1)) ∧ ((lo_S h0 g0 h1 g1 B N M rd D (fun p => p) hC0 n t w o π (5 * (40 - o) + 2) (40 - o) G rC2 rM2 hC2 gC1 hM2 gM1 k2 n2 t2 ∧ n' + 2 ≤ n2) ∨ (ps_D h0 g0 h1 g1 B N M rd hC2 gC1 hM2 gM1 w π ∧ n2 = n' + 2)) := by
          rcases R with ⟨k1, n1, t1, P1, J1, n1l, t1l, r1, r2, wf1, gw1, ga1⟩ | R
          · obtain ⟨rC2, rM2, hC2, hM2, v1, v2, v3⟩ := st_two (i := n' - 1) (j := n1 - 1) (kd := 9) (m := -1) (wh := 22) (e + 10) X (Or.inr (Or.inr ⟨rfl, rfl, rfl⟩)) (Or.inl ⟨P1, J1, rfl, r1, rfl, r2⟩)
            rcases v3 with ⟨p1, p2, p3, p4, p5⟩ | v3
            · refine ⟨rC2, rM2, hC2, hM2, k1, n1 + 1, t1, v1, v2, Or.inl ⟨⟨p1, p2, by omega, by omega, p3, p4, ⟨5 * (40 - o) + 2, ?_, Nat.le_refl _, fun z => ?_⟩, ?_, ga1⟩, by omega⟩⟩
              · show wfx hC2 _ _ n1 n t t1 G
                have xa := xn_at (hC := hC1) (n := n1) 9 (-1) (nI (n' - 1)) (nI (n1 - 1)) (-1)
                rw [p5]
                have g5 : ∀ c i, 12 ≤ c → c ≤ 16 → i < n1 → (xn hC1 n1 9 (-1) (nI (n' - 1)) (nI (n1 - 1)) (-1)) c i = hC1 c i := fun c i q1 q2 q3 => xn_i (by omega) (by omega)
                have wl' : wfx (xn hC1 n1 9 (-1) (nI (n' - 1)) (nI (n1 - 1)) (-1)) f1 (40 - o) (n' - 1) n t t' G := wfx_cg (n := n') wl (by omega) (fun c i q1 q2 q3 => by rw [g5 c i q1 q2 (by omega), gw1.2.2 c i q1 q2 q3])
                have w1 : wfx (xn hC1 n1 9 (-1) (nI (n' - 1)) (nI (n1 - 1)) (-1)) (5 * (40 - o) + 1) (40 - o) (n1 - 1) n' t' t1 G := wfx_cg (n := n1) wf1 (by omega) g5
                have kk : (xn hC1 n1 9 (-1) (nI (n' - 1)) (nI (n1 - 1)) (-1)) 12 (n' - 1) = hC 12 (n' - 1) := by rw [g5 _ _ (by decide) (by decide) (by omega), gw1.2.2 _ _ (by decide) (by decide) (by omega)]
                exact Or.inr (Or.inr (Or.inr (Or.inr (Or.inr (Or.inr (Or.inr (Or.inr (Or.inr ⟨xa.1, f1, 5 * (40 - o) + 1, n' - 1, n1 - 1, t', ⟨f1l, by rw [kk]; exact f19⟩, by omega, xa.2.2.1, xa.2.2.2.1, by omega, wf_le (show n' - 1 + 1 ≤ n1 by omega) wl', by rw [show n' - 1 + 1 = n' by omega]; exact wf_le (show n1 - 1 + 1 ≤ n1 by omega) w1⟩))))))))
              · refine absurd ?_ z
                show hC2 12 n1 = 9
                rw [p5]
                exact (xn_at (hC := hC1) (n := n1) 9 (-1) (nI (n' - 1)) (nI (n1 - 1)) (-1)).1
              · have g6 : gw hC1 hC2 n1 t1 t1 D := ⟨fun c i q1 q2 _ => by rw [p5, xn_c (by omega) (by omega)], fun i q1 q2 => absurd q1 (by omega), fun c i q1 q2 q3 => by rw [p5, xn_i (by omega) (by omega)]⟩
                exact gw_t (gw_t gwl gw1 (by omega) (by omega)) g6 (by omega) (by omega)
            · exact ⟨rC2, rM2, hC2, hM2, 0, n' + 2, 0, v1, v2, Or.inr ⟨v3, rfl⟩⟩
          · obtain ⟨rC2, rM2, hC2, hM2, v1, v2, v3⟩ := st_two (i := n' - 1) (j := 0) (n := 0) (k := 0) (o := o) (t := t) (G := G) (kd := 9) (m := -1) (wh := 22) (a := nI (n' - 1)) (b := rC1) (a' := nI (2900 * rd + (n' - 1))) (b' := rM1) (e + 10) X (Or.inr (Or.inr ⟨rfl, rfl, rfl⟩)) (Or.inr R)
            refine ⟨rC2, rM2, hC2, hM2, 0, n' + 2, 0, v1, v2, Or.inr ⟨?_, rfl⟩⟩
            rcases v3 with ⟨p1, _⟩ | v3
            · obtain ⟨_, _, W2, _⟩ := R
              have z := ea_newNodeB (hC := hC1) (gC := gC1) (kd := 9) (m := -1) (a := nI (n' - 1)) (b := rC1) (e + 11) (cf_0 W2).1
              have z2 := Option.some.inj (v1.symm.trans z)
              have z3 : hC2 = hC1 := (Prod.mk.inj (Prod.mk.inj (Prod.mk.inj z2).2).2).1
              exact absurd (by rw [← z3]; exact p1.2.2.2.1.1) (cf_0 W2).1
            · exact v3
        obtain ⟨rC2, rM2, hC2, hM2, k2, n2, t2, v1, v2, v3⟩ := step
        have S2 : (lo_S h0 g0 h1 g1 B N M rd D (fun p => p) hC0 n t w o π (5 * (40 - o) + 2) (40 - o) G rC2 rM2 hC2 gC1 hM2 gM1 k2 n2 t2 ∨ ps_D h0 g0 h1 g1 B N M rd hC2 gC1 hM2 gM1 w π) ∧ n' + 2 ≤ n2 := by
          rcases v3 with ⟨z1, z2⟩ | ⟨z1, z2⟩
          · exact ⟨Or.inl z1, z2⟩
          · exact ⟨Or.inr z1, by omega⟩
        obtain ⟨rC3, rM3, hC3, gC3, hM3, gM3, x1, x2, R3⟩ := ih (i + 1) nC nM hC2 gC1 hM2 gM1 rC2 rM2 k2 n2 t2 (by omega) (by omega) (by omega) (by omega) S2.1
        refine ⟨rC3, rM3, hC3, gC3, hM3, gM3, ?_, ?_, R3⟩
        · rw [ht_190_1, ch_190_2]; (try simp +decide (disch := omega) only [ni_bF, nI_clamp, nI_add, pk_mul, dc_ltT, dc_ltF, dc_leT, dc_leF, dc_eqF, dc_neT, dn_eq, dn_ne, dn_lt, dn_ge, si_at, si_c, si_k, q_at_nI, q_put_nI, ne_eq, not_false_eq_true, not_true_eq_false, ↓reduceIte, v0_ltT, v0_ltF, v0_gtT, v0_gtF, v0_leT, v0_leF, v0_geT, v0_geF, v0_eqT, v0_eqF, v0_add, v0_dda, v0_mul, v0_lum, v0_sub, v0_bad, v0_cl, v2000_ltT, v2000_ltF, v2000_gtT, v2000_gtF, v2000_leT, v2000_leF, v2000_geT, v2000_geF, v2000_eqT, v2000_eqF, v2000_add, v2000_dda, v2000_mul, v2000_lum, v2000_sub, v2000_bad, v2000_cl]); rw [b0, ev_rs, ch_190_4]; (try simp +decide (disch := omega) only [ni_bF, nI_clamp, nI_add, pk_mul, dc_ltT, dc_ltF, dc_leT, dc_leF, dc_eqF, dc_neT, dn_eq, dn_ne, dn_lt, dn_ge, si_at, si_c, si_k, q_at_nI, q_put_nI, ne_eq, not_false_eq_true, not_true_eq_false, ↓reduceIte, v0_ltT, v0_ltF, v0_gtT, v0_gtF, v0_leT, v0_leF, v0_geT, v0_geF, v0_eqT, v0_eqF, v0_add, v0_dda, v0_mul, v0_lum, v0_sub, v0_bad, v0_cl]); rw [u1, ev_rs, ch_190_5, v1, ev_rs, ch_190_6]; (try simp +decide (disch := omega) only [ni_bF, nI_clamp, nI_add, pk_mul, dc_ltT, dc_ltF, dc_leT, dc_leF, dc_eqF, dc_neT, dn_eq, dn_ne, dn_lt, dn_ge, si_at, si_c, si_k, q_at_nI, q_put_nI, ne_eq, not_false_eq_true, not_true_eq_false, ↓reduceIte, v0_ltT, v0_ltF, v0_gtT, v0_gtF, v0_leT, v0_leF, v0_geT, v0_geF, v0_eqT, v0_eqF, v0_add, v0_dda, v0_mul, v0_lum, v0_sub, v0_bad, v0_cl, v1_ltT, v1_ltF, v1_gtT, v1_gtF, v1_leT, v1_leF, v1_geT, v1_geF, v1_eqT, v1_eqF, v1_add, v1_dda, v1_mul, v1_lum, v1_sub, v1_bad, v1_cl]); rw [sk_190_2_7, lp_190_7]
          exact mo_f (Nat.le_refl _) (by repeat (first | exact trivial | refine And.intro rfl ?_)) rfl x1
        · by_cases c2 : tok B N (tp B N k') = 2
          · rw [if_pos c2] at i2
            rw [ht_42_1, ch_42_2, i2, ev_rs, ch_42_3]; (try simp +decide (disch := omega) only [ni_bF, nI_clamp, nI_add, pk_mul, dc_ltT, dc_ltF, dc_leT, dc_leF, dc_eqF, dc_neT, dn_eq, dn_ne, dn_lt, dn_ge, si_at, si_c, si_k, q_at_nI, q_put_nI, ne_eq, not_false_eq_true, not_true_eq_false, ↓reduceIte, v0_ltT, v0_ltF, v0_gtT, v0_gtF, v0_leT, v0_leF, v0_geT, v0_geF, v0_eqT, v0_eqF, v0_add, v0_dda, v0_mul, v0_lum, v0_sub, v0_bad, v0_cl]); rw [ht_42_2, ch_42_4, u2, ev_rs, ch_42_6, v2, ev_rs, ch_42_8, sk_42_3_5, lp_42_5]
            exact mo_f (Nat.le_refl _) (by repeat (first | exact trivial | refine And.intro rfl ?_)) rfl x2
          · rw [if_neg c2] at i2
            by_cases c3 : tok B N (tp B N k') = 3
            · rw [if_pos c3] at i3
              rw [ht_42_1, ch_42_2, i2, ev_rs, ch_42_3]; (try simp +decide (disch := omega) only [ni_bF, nI_clamp, nI_add, pk_mul, dc_ltT, dc_ltF, dc_leT, dc_leF, dc_eqF, dc_neT, dn_eq, dn_ne, dn_lt, dn_ge, si_at, si_c, si_k, q_at_nI, q_put_nI, ne_eq, not_false_eq_true, not_true_eq_false, ↓reduceIte, v0_ltT, v0_ltF, v0_gtT, v0_gtF, v0_leT, v0_leF, v0_geT, v0_geF, v0_eqT, v0_eqF, v0_add, v0_dda, v0_mul, v0_lum, v0_sub, v0_bad, v0_cl]); rw [i3, ev_rs, ch_42_5]; (try simp +decide (disch := omega) only [ni_bF, nI_clamp, nI_add, pk_mul, dc_ltT, dc_ltF, dc_leT, dc_leF, dc_eqF, dc_neT, dn_eq, dn_ne, dn_lt, dn_ge, si_at, si_c, si_k, q_at_nI, q_put_nI, ne_eq, not_false_eq_true, not_true_eq_false, ↓reduceIte, v0_ltT, v0_ltF, v0_gtT, v0_gtF, v0_leT, v0_leF, v0_geT, v0_geF, v0_eqT, v0_eqF, v0_add, v0_dda, v0_mul, v0_lum, v0_sub, v0_bad, v0_cl]); rw [ht_42_2, ch_42_4, u2, ev_rs, ch_42_6, v2, ev_rs, ch_42_8, sk_42_3_5, lp_42_5]
              exact mo_f (Nat.le_refl _) (by repeat (first | exact trivial | refine And.intro rfl ?_)) rfl x2
            · rw [if_neg c3] at i3
              rw [if_pos (by omega)] at i4
              rw [ht_42_1, ch_42_2, i2, ev_rs, ch_42_3]; (try simp +decide (disch := omega) only [ni_bF, nI_clamp, nI_add, pk_mul, dc_ltT, dc_ltF, dc_leT, dc_leF, dc_eqF, dc_neT, dn_eq, dn_ne, dn_lt, dn_ge, si_at, si_c, si_k, q_at_nI, q_put_nI, ne_eq, not_false_eq_true, not_true_eq_false, ↓reduceIte, v0_ltT, v0_ltF, v0_gtT, v0_gtF, v0_leT, v0_leF, v0_geT, v0_geF, v0_eqT, v0_eqF, v0_add, v0_dda, v0_mul, v0_lum, v0_sub, v0_bad, v0_cl]); rw [i3, ev_rs, ch_42_5]; (try simp +decide (disch := omega) only [ni_bF, nI_clamp, nI_add, pk_mul, dc_ltT, dc_ltF, dc_leT, dc_leF, dc_eqF, dc_neT, dn_eq, dn_ne, dn_lt, dn_ge, si_at, si_c, si_k, q_at_nI, q_put_nI, ne_eq, not_false_eq_true, not_true_eq_false, ↓reduceIte, v0_ltT, v0_ltF, v0_gtT, v0_gtF, v0_leT, v0_leF, v0_geT, v0_geF, v0_eqT, v0_eqF, v0_add, v0_dda, v0_mul, v0_lum, v0_sub, v0_bad, v0_cl]); rw [i4, ev_rs, ch_42_7]; (try simp +decide (disch := omega) only [ni_bF, nI_clamp, nI_add, pk_mul, dc_ltT, dc_ltF, dc_leT, dc_leF, dc_eqF, dc_neT, dn_eq, dn_ne, dn_lt, dn_ge, si_at, si_c, si_k, q_at_nI, q_put_nI, ne_eq, not_false_eq_true, not_true_eq_false, ↓reduceIte, v0_ltT, v0_ltF, v0_gtT, v0_gtF, v0_leT, v0_leF, v0_geT, v0_geF, v0_eqT, v0_eqF, v0_add, v0_dda, v0_mul, v0_lum, v0_sub, v0_bad, v0_cl]); rw [ht_42_2, ch_42_4, u2, ev_rs, ch_42_6, v2, ev_rs, ch_42_8, sk_42_3_5, lp_42_5]
              exact mo_f (Nat.le_refl _) (by repeat (first | exact trivial | refine And.intro rfl ?_)) rfl x2
      · rw [if_neg cb] at b0
        rw [if_neg (by omega)] at i2 i3 i4
        refine ⟨nI (n' - 1), nI (2900 * rd + (n' - 1)), hC, gC, hM, gM, ?_, ?_, Or.inl ⟨k', n', t', P, J, s1, s2, rfl, rfl, wf_fg f1l (Nat.le_refl _) wl, gwl, gal⟩⟩
        · rw [ht_190_1, ch_190_2]; (try simp +decide (disch := omega) only [ni_bF, nI_clamp, nI_add, pk_mul, dc_ltT, dc_ltF, dc_leT, dc_leF, dc_eqF, dc_neT, dn_eq, dn_ne, dn_lt, dn_ge, si_at, si_c, si_k, q_at_nI, q_put_nI, ne_eq, not_false_eq_true, not_true_eq_false, ↓reduceIte, v0_ltT, v0_ltF, v0_gtT, v0_gtF, v0_leT, v0_leF, v0_geT, v0_geF, v0_eqT, v0_eqF, v0_add, v0_dda, v0_mul, v0_lum, v0_sub, v0_bad, v0_cl, v2000_ltT, v2000_ltF, v2000_gtT, v2000_gtF, v2000_leT, v2000_leF, v2000_geT, v2000_geF, v2000_eqT, v2000_eqF, v2000_add, v2000_dda, v2000_mul, v2000_lum, v2000_sub, v2000_bad, v2000_cl]); rw [b0, ev_rs, ch_190_4]; (try simp +decide (disch := omega) only [ni_bF, nI_clamp, nI_add, pk_mul, dc_ltT, dc_ltF, dc_leT, dc_leF, dc_eqF, dc_neT, dn_eq, dn_ne, dn_lt, dn_ge, si_at, si_c, si_k, q_at_nI, q_put_nI, ne_eq, not_false_eq_true, not_true_eq_false, ↓reduceIte, v0_ltT, v0_ltF, v0_gtT, v0_gtF, v0_leT, v0_leF, v0_geT, v0_geF, v0_eqT, v0_eqF, v0_add, v0_dda, v0_mul, v0_lum, v0_sub, v0_bad, v0_cl]); rw [ht_190_2, ch_190_3]
        · rw [ht_42_1, ch_42_2, i2, ev_rs, ch_42_3]; (try simp +decide (disch := omega) only [ni_bF, nI_clamp, nI_add, pk_mul, dc_ltT, dc_ltF, dc_leT, dc_leF, dc_eqF, dc_neT, dn_eq, dn_ne, dn_lt, dn_ge, si_at, si_c, si_k, q_at_nI, q_put_nI, ne_eq, not_false_eq_true, not_true_eq_false, ↓reduceIte, v0_ltT, v0_ltF, v0_gtT, v0_gtF, v0_leT, v0_leF, v0_geT, v0_geF, v0_eqT, v0_eqF, v0_add, v0_dda, v0_mul, v0_lum, v0_sub, v0_bad, v0_cl]); rw [i3, ev_rs, ch_42_5]; (try simp +decide (disch := omega) only [ni_bF, nI_clamp, nI_add, pk_mul, dc_ltT, dc_ltF, dc_leT, dc_leF, dc_eqF, dc_neT, dn_eq, dn_ne, dn_lt, dn_ge, si_at, si_c, si_k, q_at_nI, q_put_nI, ne_eq, not_false_eq_true, not_true_eq_false, ↓reduceIte, v0_ltT, v0_ltF, v0_gtT, v0_gtF, v0_leT, v0_leF, v0_geT, v0_geF, v0_eqT, v0_eqF, v0_add, v0_dda, v0_mul, v0_lum, v0_sub, v0_bad, v0_cl]); rw [i4, ev_rs, ch_42_7]; (try simp +decide (disch := omega) only [ni_bF, nI_clamp, nI_add, pk_mul, dc_ltT, dc_ltF, dc_leT, dc_leF, dc_eqF, dc_neT, dn_eq, dn_ne, dn_lt, dn_ge, si_at, si_c, si_k, q_at_nI, q_put_nI, ne_eq, not_false_eq_true, not_true_eq_false, ↓reduceIte, v0_ltT, v0_ltF, v0_gtT, v0_gtF, v0_leT, v0_leF, v0_geT, v0_geF, v0_eqT, v0_eqF, v0_add, v0_dda, v0_mul, v0_lum, v0_sub, v0_bad, v0_cl]); rw [sk_42_2_48, ht_42_3, ch_42_9]
theorem ct_app (X : px h0 h1 g1 B N M rd) (IH : o < 40 → exC h0 g0 h1 g1 B N M rd D (o + 1) (e + 10)) : cnC 190 42 h0 g0 h1 g1 B N M rd D o (e + 13) (5 * (40 - o) + 2) := by
  intro hC gC hM gM k n t w G π P J
  obtain ⟨rC1, rM1, hC1, gC1, hM1, gM1, u1, u2, R⟩ := ct_atom (s := 0) X IH P (by omega) (Or.inl rfl)
  have S : ∃ k1 n1 t1, lo_S h0 g0 h1 g1 B N M rd D (fun p => p) hC n t w o π (5 * (40 - o) + 2) (40 - o) G rC1 rM1 hC1 gC1 hM1 gM1 k1 n1 t1 ∨ ps_D h0 g0 h1 g1 B N M rd hC1 gC1 hM1 gM1 w π := by
    rcases R with ⟨k1, n1, t1, P1, J1, n1l, t1l, r1, r2, wf1, gw1, ga1⟩ | R
    · exact ⟨k1, n1, t1, Or.inl ⟨P1, J1, n1l, t1l, r1, r2, ⟨5 * (40 - o) + 1, wf1, by omega, fun _ => by omega⟩, gw1, ga1⟩⟩
    · exact ⟨0, 0, 0, Or.inr R⟩
  obtain ⟨k1, n1, t1, S⟩ := S
  obtain ⟨rC3, rM3, hC3, gC3, hM3, gM3, x1, x2, R3⟩ := al_loop X IH hC 2700 0 999999 999999 hC1 gC1 hM1 gM1 rC1 rM1 k1 n1 t1 (by omega) (by omega) (by omega) (by omega) S
  refine ⟨rC3, rM3, hC3, gC3, hM3, gM3, ?_, ?_, R3⟩
  · rw [en_190, ht_190_0, ch_190_0, u1, ev_rs, ch_190_1]
    exact x1
  · rw [en_42, ht_42_0, ch_42_0, u2, ev_rs, ch_42_1]
    exact x2
end LO
