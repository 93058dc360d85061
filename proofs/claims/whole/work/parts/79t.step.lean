/-! both parsers side by side: one DEF, whole -/
theorem sl_off {h : Nat → Nat → Int64} {x k i : Nat} {z : Int64} (hi : i ≠ k) : am_sl h x k z x i = h x i := by simp [am_sl, hi]
theorem sl_atL {h : Nat → Nat → Int64} {x k : Nat} {z : Int64} : am_sl h x k z x k = z := by simp [am_sl]
section DS
variable {H0 H1 hC hM : Nat → Nat → Int32} {G0 G1 gC gM : Nat → Nat → Int64} {B : Nat → Nat} {N M rd k o n t w π D e s : Nat} {G : List Nat} {sz L bd st : Nat → Nat}
def up (f : Nat → Nat) (D v : Nat) : Nat → Nat := fun i => if i = D then v else f i
theorem up_at {f : Nat → Nat} {D v : Nat} : up f D v D = v := if_pos rfl
theorem up_ne {f : Nat → Nat} {D v i : Nat} (h : i ≠ D) : up f D v i = f i := if_neg h
theorem df_step (X : px H0 H1 G1 B N M rd) (S : df_R H0 G0 H1 G1 B N M rd D k n t sz L bd st hC gC hM gM) : ∃ (hC' : Nat → Nat → Int32) (gC' : Nat → Nat → Int64) (hM' : Nat → Nat → Int32) (gM' : Nat → Nat → Int64), am_call tb_P (e + 340) 179 [.ref 32] (pr_S, hC, gC) = some (none, (pr_S, hC', gC')) ∧ am_call tb_P (e + 340) 45 [.ref 73] (pr_S, hM, gM) = some (none, (pr_S, hM', gM')) ∧ ((∃ k' n' t' sz' L' bd' st', df_R H0 G0 H1 G1 B N M rd (D + 1) k' n' t' sz' L' bd' st' hC' gC' hM' gM') ∨ pp_D H0 G0 H1 G1 B N M rd 0 hC' gC' hM' gM') := by
  obtain ⟨F, P, s0, d0, hD24, J, hLt, dt, w0, e32⟩ := id S
  have X' := px_fx X F
  have hrd := X.2.2.2.2.2.2.1
  have hk : k < 2001 := by have := X.2.2.2.1; have := P.1.2.2; omega
  obtain ⟨tk, tpl, tn, _⟩ := px_t X' pf_Mr P.1.2.2
  have f0 := P.2.1.1
  have f26 : hM 73 26 = 0 := by have := P.2.2.1.2.1; rw [am_si_off (by decide)] at this; exact this
  have e6 : hM 73 6 = nI k := by have := P.2.2.1.1; rw [am_si_off (by decide)] at this; exact this
  have e24 : hM 73 24 = nI n := by have := P.2.2.1.2.2.2.2; rw [am_si_off (by decide)] at this; exact this
  have h25 : hM 73 25 = nI rd := X'.2.2.2.2.2.2.2.1
  have sp1 : hC 3 1 = nI t := P.2.2.2.2.1.1
  have mt : hM 86 rd = nI t := by have := P.2.2.2.2.1.2.1; rw [am_si_ne (by decide)] at this; exact this
  have t200 : t ≤ 200 := P.2.2.2.2.1.2.2.1
  have tx2 : hC 1 2 = nI (tp B N k) := P.1.1.1
  have i24 : (24 : Int32) * nI rd = nI (24 * rd) := by rcases (by omega : rd = 0 ∨ rd = 1) with rfl | rfl <;> rfl
  have Q0 : ps_O hC gC (am_si hM 73 32 0) gM B N M rd hC gC (am_si hM 73 32 0) gM k 0 n t 0 [] := ⟨pf_Cr F.2.1, pf_Mr, P⟩
  have F0 : fx H0 G0 H1 G1 N rd hC gC (am_si hM 73 32 0) gM := fx_pf F (pf_Cr F.2.1) (pf_Mo (by decide) pf_Mr)
  -- a FAULT at this token
  have bad : ∀ f : Int32, f ≠ 0 → pp_D H0 G0 H1 G1 B N M rd 0 (xfl hC f (hC 1 2)) gC (xfm2 hM f (hM 76 k)) gM := fun f hf => by
    have Pb := ps_fl (f := f) (px_fx X F0) Q0 hf
    refine ⟨fx_pf F Pb.1 (pf_Mo (by decide) (pf_Mo (by decide) pf_Mr)), k, n, w0, ⟨f, tp B N k, ?_, hf, ?_, ?_, ?_, P.1.2.2, ?_, ?_, Or.inr ⟨?_, ?_⟩⟩, by omega⟩
    · unfold xfl; rw [am_si_ne (by decide), am_si_off (by decide), am_si_at]
    · unfold xfl; rw [am_si_ne (by decide), am_si_at]; exact tx2
    · unfold xfl; rw [am_si_at]
    · unfold xfm2; rw [am_si_off (by decide), am_si_off (by decide)]; exact e6
    · unfold xfm2; rw [am_si_off (by decide), am_si_off (by decide)]; exact e24
    · unfold xfm2; rw [am_si_off (by decide), am_si_off (by decide)]; exact e32
    · unfold xfm2; rw [am_si_off (by decide), am_si_at]
    · unfold xfm2; rw [am_si_at]; exact tpl
  by_cases c : tok B N (tp B N k) = 2
  · have tc : hC 1 1 = 258 := by rw [P.1.1.2.1, c]; rfl
    have mn := tn c
    obtain ⟨c1, c2, c3⟩ := tok_n c
    have nmC : gC 1 3 = nm B (tp B N k) (la B N (tp B N k) - tp B N k) := P.1.1.2.2.2.1 c1 c2
    have nmE : gM 78 k = gC 1 3 := mn.trans nmC.symm
    have iT := em_isT (gM := gM) (v := 2) (e + 338) f26 e6 hk (tk.trans (by rw [c]; rfl))
    have fC := ea_findDef (gC := gC) (e + 338) (gC 1 3) hD24 s0
    have fM := em_defNamed (gM := gM) (e + 338) (gM 78 k) hD24 hrd h25 d0
    have fE : ff (fun i => gM 91 (24 * rd + i)) (gM 78 k) D 0 = ff (gC 4) (gC 1 3) D 0 := by
      rw [nmE]; exact ff_cg (fun i hi => (dt.2 i (by omega)).1)
    rw [fE] at fM
    cases hf : ff (gC 4) (gC 1 3) D 0 with
    | some i =>
      rw [hf] at fC fM
      have hi := ff_lt hf
      have fC' : am_call tb_P (e + 339) 207 [.ref 3, .long (gC 1 3)] (pr_S, hC, gC) = some (some (.int (nI i)), (pr_S, hC, gC)) := fC
      have fM' : am_call tb_P (e + 339) 44 [.ref 73, .long (gM 78 k)] (pr_S, hM, gM) = some (some (.int (nI i)), (pr_S, hM, gM)) := fM
      have ni : nI i ≠ -1 := fun z => by rw [nl_m1 (by omega)] at z; exact z
      refine ⟨_, _, _, _, ?_, ?_, Or.inr (bad 4 (by decide))⟩
      · rw [en_179, ht_179_0, ch_179_0]; (try simp +decide (disch := omega) only [ni_bF, nI_clamp, nI_add, pk_mul, dc_ltT, dc_ltF, dc_leT, dc_leF, dc_eqF, dc_neT, dn_eq, dn_ne, dn_lt, dn_ge, si_at, si_c, si_k, q_at_nI, q_put_nI, ne_eq, not_false_eq_true, not_true_eq_false, ↓reduceIte, v0_ltT, v0_ltF, v0_gtT, v0_gtF, v0_leT, v0_leF, v0_geT, v0_geF, v0_eqT, v0_eqF, v0_add, v0_dda, v0_mul, v0_lum, v0_sub, v0_bad, v0_cl, v258_ltT, v258_ltF, v258_gtT, v258_gtF, v258_leT, v258_leF, v258_geT, v258_geF, v258_eqT, v258_eqF, v258_add, v258_dda, v258_mul, v258_lum, v258_sub, v258_bad, v258_cl, tc]); rw [ht_179_1, ch_179_1, fC', ev_rs, ch_179_3]; (try simp +decide (disch := omega) only [ni_bF, nI_clamp, nI_add, pk_mul, dc_ltT, dc_ltF, dc_leT, dc_leF, dc_eqF, dc_neT, dn_eq, dn_ne, dn_lt, dn_ge, si_at, si_c, si_k, q_at_nI, q_put_nI, ne_eq, not_false_eq_true, not_true_eq_false, ↓reduceIte, v0_ltT, v0_ltF, v0_gtT, v0_gtF, v0_leT, v0_leF, v0_geT, v0_geF, v0_eqT, v0_eqF, v0_add, v0_dda, v0_mul, v0_lum, v0_sub, v0_bad, v0_cl, tc]); rw [ea_pfail _ f0, ev_rn, ch_179_5]
      · rw [en_45, ht_45_0, ch_45_0]; (try simp +decide (disch := omega) only [ni_bF, nI_clamp, nI_add, pk_mul, dc_ltT, dc_ltF, dc_leT, dc_leF, dc_eqF, dc_neT, dn_eq, dn_ne, dn_lt, dn_ge, si_at, si_c, si_k, q_at_nI, q_put_nI, ne_eq, not_false_eq_true, not_true_eq_false, ↓reduceIte, v0_ltT, v0_ltF, v0_gtT, v0_gtF, v0_leT, v0_leF, v0_geT, v0_geF, v0_eqT, v0_eqF, v0_add, v0_dda, v0_mul, v0_lum, v0_sub, v0_bad, v0_cl, v24_ltT, v24_ltF, v24_gtT, v24_gtF, v24_leT, v24_leF, v24_geT, v24_geF, v24_eqT, v24_eqF, v24_add, v24_dda, v24_mul, v24_lum, v24_sub, v24_bad, v24_cl, h25, e6]); rw [iT, ev_rs, ch_45_1]; (try simp +decide (disch := omega) only [ni_bF, nI_clamp, nI_add, pk_mul, dc_ltT, dc_ltF, dc_leT, dc_leF, dc_eqF, dc_neT, dn_eq, dn_ne, dn_lt, dn_ge, si_at, si_c, si_k, q_at_nI, q_put_nI, ne_eq, not_false_eq_true, not_true_eq_false, ↓reduceIte, v0_ltT, v0_ltF, v0_gtT, v0_gtF, v0_leT, v0_leF, v0_geT, v0_geF, v0_eqT, v0_eqF, v0_add, v0_dda, v0_mul, v0_lum, v0_sub, v0_bad, v0_cl, h25, e6]); rw [ht_45_1, ch_45_2]; (try simp +decide (disch := omega) only [ni_bF, nI_clamp, nI_add, pk_mul, dc_ltT, dc_ltF, dc_leT, dc_leF, dc_eqF, dc_neT, dn_eq, dn_ne, dn_lt, dn_ge, si_at, si_c, si_k, q_at_nI, q_put_nI, ne_eq, not_false_eq_true, not_true_eq_false, ↓reduceIte, v0_ltT, v0_ltF, v0_gtT, v0_gtF, v0_leT, v0_leF, v0_geT, v0_geF, v0_eqT, v0_eqF, v0_add, v0_dda, v0_mul, v0_lum, v0_sub, v0_bad, v0_cl, h25, e6]); rw [fM', ev_rs, ch_45_4]; (try simp +decide (disch := omega) only [ni_bF, nI_clamp, nI_add, pk_mul, dc_ltT, dc_ltF, dc_leT, dc_leF, dc_eqF, dc_neT, dn_eq, dn_ne, dn_lt, dn_ge, si_at, si_c, si_k, q_at_nI, q_put_nI, ne_eq, not_false_eq_true, not_true_eq_false, ↓reduceIte, v0_ltT, v0_ltF, v0_gtT, v0_gtF, v0_leT, v0_leF, v0_geT, v0_geF, v0_eqT, v0_eqF, v0_add, v0_dda, v0_mul, v0_lum, v0_sub, v0_bad, v0_cl, h25, e6]); rw [em_pfail _ f26 e6 hk, ev_rn, ch_45_6]
    | none =>
      rw [hf] at fC fM
      have fC' : am_call tb_P (e + 339) 207 [.ref 3, .long (gC 1 3)] (pr_S, hC, gC) = some (some (.int (-1)), (pr_S, hC, gC)) := fC
      have fM' : am_call tb_P (e + 339) 44 [.ref 73, .long (gM 78 k)] (pr_S, hM, gM) = some (some (.int (-1)), (pr_S, hM, gM)) := fM
      by_cases hD : D = 24
      · subst hD
        have ad : am_call tb_P (e + 339) 204 [.ref 3, .long (gC 1 3), .int (hC 1 2)] (pr_S, hC, gC) = some (some (.int (-1)), (pr_S, hC, gC)) := by
          rw [en_204_3, ht_204_3_0, ch_204_3_0]; try simp +decide (disch := omega) only [ni_bF, nI_clamp, nI_add, pk_mul, dc_ltT, dc_ltF, dc_leT, dc_leF, dc_eqF, dc_neT, dn_eq, dn_ne, dn_lt, dn_ge, si_at, si_c, si_k, q_at_nI, q_put_nI, ne_eq, not_false_eq_true, not_true_eq_false, ↓reduceIte, v0_ltT, v0_ltF, v0_gtT, v0_gtF, v0_leT, v0_leF, v0_geT, v0_geF, v0_eqT, v0_eqF, v0_add, v0_dda, v0_mul, v0_lum, v0_sub, v0_bad, v0_cl, v24_ltT, v24_ltF, v24_gtT, v24_gtF, v24_leT, v24_leF, v24_geT, v24_geF, v24_eqT, v24_eqF, v24_add, v24_dda, v24_mul, v24_lum, v24_sub, v24_bad, v24_cl, s0]
        have d24 : hM 85 rd = 24 := d0
        refine ⟨_, _, _, _, ?_, ?_, Or.inr (bad 5 (by decide))⟩
        · rw [en_179, ht_179_0, ch_179_0, if_pos tc, ht_179_1, ch_179_1, fC', ev_rs, ch_179_3, if_pos (by decide), ht_179_2, ch_179_4, ad, ev_rs, ch_179_6, if_neg (by decide), ea_pfail _ f0, ev_rn, ch_179_8]
        · rw [en_45, ht_45_0, ch_45_0]; (try simp +decide (disch := omega) only [ni_bF, nI_clamp, nI_add, pk_mul, dc_ltT, dc_ltF, dc_leT, dc_leF, dc_eqF, dc_neT, dn_eq, dn_ne, dn_lt, dn_ge, si_at, si_c, si_k, q_at_nI, q_put_nI, ne_eq, not_false_eq_true, not_true_eq_false, ↓reduceIte, v0_ltT, v0_ltF, v0_gtT, v0_gtF, v0_leT, v0_leF, v0_geT, v0_geF, v0_eqT, v0_eqF, v0_add, v0_dda, v0_mul, v0_lum, v0_sub, v0_bad, v0_cl, v24_ltT, v24_ltF, v24_gtT, v24_gtF, v24_leT, v24_leF, v24_geT, v24_geF, v24_eqT, v24_eqF, v24_add, v24_dda, v24_mul, v24_lum, v24_sub, v24_bad, v24_cl, h25, e6, d24]); rw [iT, ev_rs, ch_45_1]; (try simp +decide (disch := omega) only [ni_bF, nI_clamp, nI_add, pk_mul, dc_ltT, dc_ltF, dc_leT, dc_leF, dc_eqF, dc_neT, dn_eq, dn_ne, dn_lt, dn_ge, si_at, si_c, si_k, q_at_nI, q_put_nI, ne_eq, not_false_eq_true, not_true_eq_false, ↓reduceIte, v0_ltT, v0_ltF, v0_gtT, v0_gtF, v0_leT, v0_leF, v0_geT, v0_geF, v0_eqT, v0_eqF, v0_add, v0_dda, v0_mul, v0_lum, v0_sub, v0_bad, v0_cl, h25, e6, d24]); rw [ht_45_1, ch_45_2]; (try simp +decide (disch := omega) only [ni_bF, nI_clamp, nI_add, pk_mul, dc_ltT, dc_ltF, dc_leT, dc_leF, dc_eqF, dc_neT, dn_eq, dn_ne, dn_lt, dn_ge, si_at, si_c, si_k, q_at_nI, q_put_nI, ne_eq, not_false_eq_true, not_true_eq_false, ↓reduceIte, v0_ltT, v0_ltF, v0_gtT, v0_gtF, v0_leT, v0_leF, v0_geT, v0_geF, v0_eqT, v0_eqF, v0_add, v0_dda, v0_mul, v0_lum, v0_sub, v0_bad, v0_cl, h25, e6, d24]); rw [fM', ev_rs, ch_45_4]; (try simp +decide (disch := omega) only [ni_bF, nI_clamp, nI_add, pk_mul, dc_ltT, dc_ltF, dc_leT, dc_leF, dc_eqF, dc_neT, dn_eq, dn_ne, dn_lt, dn_ge, si_at, si_c, si_k, q_at_nI, q_put_nI, ne_eq, not_false_eq_true, not_true_eq_false, ↓reduceIte, v0_ltT, v0_ltF, v0_gtT, v0_gtF, v0_leT, v0_leF, v0_geT, v0_geF, v0_eqT, v0_eqF, v0_add, v0_dda, v0_mul, v0_lum, v0_sub, v0_bad, v0_cl, h25, e6, d24]); rw [ht_45_2, ch_45_5]; (try simp +decide (disch := omega) only [ni_bF, nI_clamp, nI_add, pk_mul, dc_ltT, dc_ltF, dc_leT, dc_leF, dc_eqF, dc_neT, dn_eq, dn_ne, dn_lt, dn_ge, si_at, si_c, si_k, q_at_nI, q_put_nI, ne_eq, not_false_eq_true, not_true_eq_false, ↓reduceIte, v0_ltT, v0_ltF, v0_gtT, v0_gtF, v0_leT, v0_leF, v0_geT, v0_geF, v0_eqT, v0_eqF, v0_add, v0_dda, v0_mul, v0_lum, v0_sub, v0_bad, v0_cl, v24_ltT, v24_ltF, v24_gtT, v24_gtF, v24_leT, v24_leF, v24_geT, v24_geF, v24_eqT, v24_eqF, v24_add, v24_dda, v24_mul, v24_lum, v24_sub, v24_bad, v24_cl, h25, e6, d24]); rw [em_pfail _ f26 e6 hk, ev_rn, ch_45_8]
      · have hDl : D < 24 := by omega
        have xb : ¬ am_bad (nI (24 * rd + D)) 48 := nI_in (by omega) (by decide)
        have iT2 := em_isT (gM := gM) (v := 2) (e + 337) f26 e6 hk (tk.trans (by rw [c]; rfl))
        have fM2 := em_defNamed (gM := gM) (e + 337) (gM 78 k) hD24 hrd h25 d0
        rw [fE, hf] at fM2
        have fM2' : am_call tb_P (e + 338) 44 [.ref 73, .long (gM 78 k)] (pr_S, hM, gM) = some (some (.int (-1)), (pr_S, hM, gM)) := fM2
        obtain ⟨hc1, hh1⟩ : ∃ h, h = am_si (am_si (am_si (am_si (am_si hC 5 D (hC 1 2)) 6 D 0) 7 D (nI t)) 8 D 0) 3 0 (nI (D + 1)) := ⟨_, rfl⟩
        obtain ⟨gc1, hg1⟩ : ∃ h, h = am_sl gC 4 D (gC 1 3) := ⟨_, rfl⟩
        obtain ⟨hm1, hn1⟩ : ∃ h, h = am_si (am_si (am_si (am_si hM 87 (24 * rd + D) (hM 76 k)) 89 (24 * rd + D) (nI t)) 90 (24 * rd + D) 0) 73 32 0 := ⟨_, rfl⟩
        obtain ⟨gm1, ho1⟩ : ∃ h, h = am_sl gM 91 (24 * rd + D) (gM 78 k) := ⟨_, rfl⟩
        have ad : am_call tb_P (e + 339) 204 [.ref 3, .long (gC 1 3), .int (hC 1 2)] (pr_S, hC, gC) = some (some (.int (nI D)), (pr_S, hc1, gc1)) := by
          rw [hh1, hg1]
          rw [en_204_3, ht_204_3_0, ch_204_3_0]; (try simp +decide (disch := omega) only [ni_bF, nI_clamp, nI_add, pk_mul, dc_ltT, dc_ltF, dc_leT, dc_leF, dc_eqF, dc_neT, dn_eq, dn_ne, dn_lt, dn_ge, si_at, si_c, si_k, q_at_nI, q_put_nI, ne_eq, not_false_eq_true, not_true_eq_false, ↓reduceIte, v0_ltT, v0_ltF, v0_gtT, v0_gtF, v0_leT, v0_leF, v0_geT, v0_geF, v0_eqT, v0_eqF, v0_add, v0_dda, v0_mul, v0_lum, v0_sub, v0_bad, v0_cl, v24_ltT, v24_ltF, v24_gtT, v24_gtF, v24_leT, v24_leF, v24_geT, v24_geF, v24_eqT, v24_eqF, v24_add, v24_dda, v24_mul, v24_lum, v24_sub, v24_bad, v24_cl, s0, sp1, Nat.add_sub_cancel]); rw [ht_204_3_1, ch_204_3_1]; try simp +decide (disch := omega) only [ni_bF, nI_clamp, nI_add, pk_mul, dc_ltT, dc_ltF, dc_leT, dc_leF, dc_eqF, dc_neT, dn_eq, dn_ne, dn_lt, dn_ge, si_at, si_c, si_k, q_at_nI, q_put_nI, ne_eq, not_false_eq_true, not_true_eq_false, ↓reduceIte, v0_ltT, v0_ltF, v0_gtT, v0_gtF, v0_leT, v0_leF, v0_geT, v0_geF, v0_eqT, v0_eqF, v0_add, v0_dda, v0_mul, v0_lum, v0_sub, v0_bad, v0_cl, v1_ltT, v1_ltF, v1_gtT, v1_gtF, v1_leT, v1_leF, v1_geT, v1_geF, v1_eqT, v1_eqF, v1_add, v1_dda, v1_mul, v1_lum, v1_sub, v1_bad, v1_cl, s0, sp1, Nat.add_sub_cancel]
        have oc : ∀ c, c ≠ 3 → (c < 5 ∨ 8 < c) → hc1 c = hC c := fun c q1 q2 => by rw [hh1, am_si_ne q1, am_si_ne (by omega), am_si_ne (by omega), am_si_ne (by omega), am_si_ne (by omega)]
        have og : ∀ c, c ≠ 4 → gc1 c = gC c := fun c q => by rw [hg1, am_sl_ne q]
        have om : ∀ c, (c < 85 ∨ 90 < c ∨ c = 86) → hm1 c = (am_si hM 73 32 0) c := fun c q => by rw [hn1, si_out (by omega), si_out (by omega), si_out (by omega)]
        have ol : ∀ c, c ≠ 91 → gm1 c = gM c := fun c q => by rw [ho1, am_sl_ne q]
        have P1 : po hc1 gc1 hm1 gm1 B N M rd k 0 n t 0 [] := po_ext P oc (by rw [hh1, am_si_off (by decide), am_si_ne (by decide), am_si_ne (by decide), am_si_ne (by decide), am_si_ne (by decide)]) (by rw [hh1, am_si_off (by decide), am_si_ne (by decide), am_si_ne (by decide), am_si_ne (by decide), am_si_ne (by decide)]) og om ol
        have om2 : ∀ c i, 86 < c → c ≤ 90 → i ≠ 24 * rd + D → hm1 c i = hM c i := fun c i q1 q2 q3 => by
          rw [hn1, am_si_ne (by omega)]
          by_cases e1 : c = 90
          · subst e1; rw [am_si_off (by omega), am_si_ne (by decide), am_si_ne (by decide)]
          · rw [am_si_ne e1]
            by_cases e2 : c = 89
            · subst e2; rw [am_si_off (by omega), am_si_ne (by decide)]
            · rw [am_si_ne e2]
              by_cases e3 : c = 87
              · subst e3; rw [am_si_off (by omega)]
              · rw [am_si_ne e3]
        have oc2 : ∀ c i, 5 ≤ c → c ≤ 8 → i ≠ D → hc1 c i = hC c i := fun c i q1 q2 q3 => by
          rw [hh1, am_si_ne (by omega)]
          by_cases e1 : c = 8
          · subst e1; rw [am_si_off (by omega), am_si_ne (by decide), am_si_ne (by decide), am_si_ne (by decide)]
          · rw [am_si_ne e1]
            by_cases e2 : c = 7
            · subst e2; rw [am_si_off (by omega), am_si_ne (by decide), am_si_ne (by decide)]
            · rw [am_si_ne e2]
              by_cases e3 : c = 6
              · subst e3; rw [am_si_off (by omega), am_si_ne (by decide)]
              · rw [am_si_ne e3]
                by_cases e4 : c = 5
                · subst e4; rw [am_si_off (by omega)]
                · rw [am_si_ne e4]
        have F1 : fx H0 G0 H1 G1 N rd hc1 gc1 hm1 gm1 := fx_ext F0 oc og om (fun i _ => by rw [hn1, am_si_ne (by decide), am_si_ne (by decide), am_si_ne (by decide), am_si_ne (by decide), am_si_ne (by decide)]) (fun c i q1 q2 q3 => by rw [om2 c i q1 q2 (by omega), am_si_ne (by omega)]) ol
        have X1 := px_fx X F1
        have dq1 : dq n t D rd hC gC hM gM hc1 gc1 hm1 gm1 := ⟨fun c i q1 q2 q3 => oc2 c i q1 q2 (by omega), fun i q => by rw [hg1, sl_off (by omega)], fun c i q1 q2 _ => by rw [oc c (by omega) (by omega)], fun c i q1 q2 _ => by rw [oc c (by omega) (by omega)], fun c i q1 q2 q3 => om2 c _ q1 q2 (by omega), fun i q => by rw [ho1, sl_off (by omega)]⟩
        have Q1 : ps_O hc1 gc1 hm1 gm1 B N M rd hc1 gc1 hm1 gm1 k 0 n t 0 [] := ⟨pf_Cr F1.2.1, pf_Mr, P1⟩
        obtain ⟨hC2, gC2, v1, v2, R2⟩ := ps_adv (e + 333) X1 Q1 (by rw [c]; decide)
        have qn := qk_n X.2.2.2.2.2.2.2.2 c
        -- the parameters
        have PA : ∃ (r : Int32) (hC3 : Nat → Nat → Int32) (gC3 : Nat → Nat → Int64) (hM3 : Nat → Nat → Int32) (gM3 : Nat → Nat → Int64), am_call tb_P (e + 339) 180 [.ref 32] (pr_S, hC2, gC2) = some (some (.int r), (pr_S, hC3, gC3)) ∧ (∀ R, am_fwd (am_call tb_P (e + 338)) (am_run (am_call tb_P (e + 338)) tb_r45_0 0) tb_r45_11 272 [(1, .int (nI (24 * rd + D))), (0, .ref 73)] [] (pr_S, hM3, gM3) = some R → am_fwd (am_call tb_P (e + 338)) (am_run (am_call tb_P (e + 338)) tb_r45_0 999999) tb_r45_4 141 [(1, .int (nI (24 * rd + D))), (0, .ref 73)] [] (pr_S, am_si hm1 73 6 (nI (k + 1)), gm1) = some R) ∧ ((∃ k' j', j' ≤ 4 ∧ r = nI j' ∧ pp_R H0 G0 H1 G1 B N M rd n t D 0 j' k' hC3 gC3 hM3 gM3 ∧ dq n t D rd hc1 gc1 hm1 gm1 hC3 gC3 hM3 gM3 ∧ (∀ c, 5 ≤ c → c ≤ 8 → hC3 c = hc1 c) ∧ gC3 4 = gc1 4 ∧ (∀ c, 86 < c → c < 90 → hM3 c = hm1 c) ∧ gM3 91 = gm1 91) ∨ pp_D H0 G0 H1 G1 B N M rd 0 hC3 gC3 hM3 gM3) := by
          rcases R2 with R2 | R2
          · have F2 := fx_pf F1 R2.1 R2.2.1
            have S2 : pp_R H0 G0 H1 G1 B N M rd n t D 0 0 (k + 1) hC2 gC2 (am_si hm1 73 6 (nI (k + 1))) gm1 := ⟨F2, R2.2.2, by rw [am_si_ne (by decide), hn1, am_si_ne (by decide), am_si_at]; rfl, by rw [R2.1.2.1, hh1, am_si_at], by rw [am_si_ne (by decide), hn1, am_si_ne (by decide), am_si_ne (by decide), am_si_ne (by decide), am_si_ne (by decide)]; exact d0, by omega, fun i q1 q2 => absurd q1 (by omega)⟩
            obtain ⟨r, hC3, gC3, hM3, gM3, u1, u2, u3⟩ := pp_loop (e + 332) X hDl 4 0 rfl _ _ _ _ _ S2
            refine ⟨r, hC3, gC3, hM3, gM3, ?_, fun R hR => u2 999999 R (by omega) hR, ?_⟩
            · have p := u1 999999 (by omega)
              rw [en_180, ht_180_0, ch_180_0]
              exact p
            · rcases u3 with ⟨k', j', w1, w2, w3, w4⟩ | w
              · refine Or.inl ⟨k', j', w1, w2, w3, dq_t (dq_pf R2.1 R2.2.1 (fun c i q1 q2 _ => by rw [v2 c (by omega) (by omega)]) (fun c i q1 q2 _ => by rw [v2 c (by omega) (by omega)])) (dq_pw w4) (Nat.le_refl _) (Nat.le_refl _), fun c q1 q2 => ?_, ?_, fun c q1 q2 => ?_, ?_⟩
                · rw [w4.1 c (by omega) (by omega) (by omega) (by omega) (by omega), v2 c (by omega) (by omega)]
                · rw [w4.2.2.2.2.1 4 (by decide) (by decide), R2.1.2.2.2 4 (by decide) (by decide)]
                · rw [w4.2.2.2.2.2.1 c (by omega) (by omega) (by omega), am_si_ne (by omega)]
                · exact w4.2.2.2.2.2.2.2
              · exact Or.inr w
          · have bD : pp_D H0 G0 H1 G1 B N M rd 0 hC2 gC2 (am_si hm1 73 6 (nI (k + 1))) gm1 := ⟨fx_pf F1 R2.1 R2.2.1, k + 1, n, 0, R2.2.2, by omega⟩
            refine ⟨nI 0, hC2, gC2, _, gm1, ?_, fun R hR => pm_exit (e + 332) 999999 X bD R hR, Or.inr bD⟩
            have t2 := (cf_0 R2).2
            have p := pa_exit (hC := hC2) (gC := gC2) (am_call tb_P (e + 338)) (j := 0) (r := nI 0) 999999 (by rw [t2]; decide) (by omega)
            rw [en_180, ht_180_0, ch_180_0]
            exact p
        obtain ⟨r, hC3, gC3, hM3, gM3, a1, a2, R3⟩ := PA
        have o4 : ∀ c, c ≠ 3 → (c < 5 ∨ 8 < c) → (am_si hC3 6 D r) c = hC3 c := fun c _ q => am_si_ne (by omega)
        have F3 : fx H0 G0 H1 G1 N rd hC3 gC3 hM3 gM3 := by
          rcases R3 with ⟨_, _, _, _, z, _⟩ | z
          · exact z.1
          · exact z.1
        have F4 : fx H0 G0 H1 G1 N rd (am_si hC3 6 D r) gC3 hM3 gM3 := fx_ext F3 o4 (fun _ _ => rfl) (fun _ _ => rfl) (fun _ _ => rfl) (fun _ _ _ _ _ => rfl) (fun _ _ => rfl)
        have S4 : ∃ w, ∃ Φ : Nat → Nat → Nat → List Nat → Prop, sx (am_si hC3 6 D r) gC3 hM3 gM3 B N M rd 0 w 0 Φ (am_si hC3 6 D r) gC3 hM3 gM3 ∧ (∀ k n' t' G, Φ k n' t' G → ∃ k' j', n' = n ∧ t' = t + j' ∧ G = pg_G t j' ∧ w = j' ∧ j' ≤ 4 ∧ r = nI j' ∧ pp_R H0 G0 H1 G1 B N M rd n t D 0 j' k' hC3 gC3 hM3 gM3 ∧ dq n t D rd hc1 gc1 hm1 gm1 hC3 gC3 hM3 gM3 ∧ (∀ c, 5 ≤ c → c ≤ 8 → hC3 c = hc1 c) ∧ gC3 4 = gc1 4 ∧ (∀ c, 86 < c → c < 90 → hM3 c = hm1 c) ∧ gM3 91 = gm1 91) := by
          rcases R3 with ⟨k', j', z1, z2, z3, z4⟩ | ⟨_, k', n', w', z3, z4⟩
          · exact ⟨j', fun _ n' t' G => n' = n ∧ t' = t + j' ∧ G = pg_G t j', Or.inl ⟨k', n, t + j', pg_G t j', ⟨pf_Cr F4.2.1, pf_Mr, po_ext z3.2.1 o4 (by rw [am_si_ne (by decide)]) (by rw [am_si_ne (by decide)]) (fun _ _ => rfl) (fun _ _ => rfl) (fun _ _ => rfl)⟩, z3.2.2.2.2.2.1, rfl, rfl, rfl⟩, fun _ _ _ _ ⟨y1, y2, y3⟩ => ⟨k', j', y1, y2, y3, rfl, z1, z2, z3, z4⟩⟩
          · exact ⟨w', fun _ _ _ _ => False, Or.inr ⟨k', n', ⟨pf_Cr F4.2.1, pf_Mr, pb_ext z3 o4 (fun _ _ => rfl)⟩, z4⟩, fun _ _ _ _ z => z.elim⟩
        obtain ⟨w, Φ, S4, hΦ⟩ := S4
        obtain ⟨hC5, gC5, hM5, rC, rM, hC6, gC6, hM6, gM6, hC8, gC8, hM8, b1, b2, b3, b4, b5, b6, F8, w8, R8⟩ := df_tail (e := e) X F4 hDl S4 (fun k n t G q => by
          obtain ⟨k', j', _, _, _, _, _, _, z, _⟩ := hΦ k n t G q
          exact ⟨by rw [am_si_ne (by decide)]; exact z.2.2.2.1, z.2.2.2.2.1⟩)
        have m25 : hM8 73 25 = nI rd := by rw [F8.2.2.2.2.1 25 (by decide) (by decide) (by decide) (by decide) (by decide) (by decide) (by decide)]; exact X.2.2.2.2.2.2.2.1
        have b1' := mo_d (d' := e + 339) (by omega) b1
        have b3' := mo_d (d' := e + 339) (by omega) b3
        have b5' := mo_d (d' := e + 339) (by omega) b5
        have v1' := mo_d (d' := e + 339) (by omega) v1
        have cls : am_call tb_P (e + 340) 179 [.ref 32] (pr_S, hC, gC) = some (none, (pr_S, am_si hC8 32 3 0, gC8)) := by
          rw [en_179, ht_179_0, ch_179_0]; (try simp +decide (disch := omega) only [ni_bF, nI_clamp, nI_add, pk_mul, dc_ltT, dc_ltF, dc_leT, dc_leF, dc_eqF, dc_neT, dn_eq, dn_ne, dn_lt, dn_ge, si_at, si_c, si_k, q_at_nI, q_put_nI, ne_eq, not_false_eq_true, not_true_eq_false, ↓reduceIte, v0_ltT, v0_ltF, v0_gtT, v0_gtF, v0_leT, v0_leF, v0_geT, v0_geF, v0_eqT, v0_eqF, v0_add, v0_dda, v0_mul, v0_lum, v0_sub, v0_bad, v0_cl, v258_ltT, v258_ltF, v258_gtT, v258_gtF, v258_leT, v258_leF, v258_geT, v258_geF, v258_eqT, v258_eqF, v258_add, v258_dda, v258_mul, v258_lum, v258_sub, v258_bad, v258_cl, tc]); rw [ht_179_1, ch_179_1, fC', ev_rs, ch_179_3]; (try simp +decide (disch := omega) only [ni_bF, nI_clamp, nI_add, pk_mul, dc_ltT, dc_ltF, dc_leT, dc_leF, dc_eqF, dc_neT, dn_eq, dn_ne, dn_lt, dn_ge, si_at, si_c, si_k, q_at_nI, q_put_nI, ne_eq, not_false_eq_true, not_true_eq_false, ↓reduceIte, v0_ltT, v0_ltF, v0_gtT, v0_gtF, v0_leT, v0_leF, v0_geT, v0_geF, v0_eqT, v0_eqF, v0_add, v0_dda, v0_mul, v0_lum, v0_sub, v0_bad, v0_cl, tc]); rw [ht_179_2, ch_179_4, ad, ev_rs, ch_179_6]; (try simp +decide (disch := omega) only [ni_bF, nI_clamp, nI_add, pk_mul, dc_ltT, dc_ltF, dc_leT, dc_leF, dc_eqF, dc_neT, dn_eq, dn_ne, dn_lt, dn_ge, si_at, si_c, si_k, q_at_nI, q_put_nI, ne_eq, not_false_eq_true, not_true_eq_false, ↓reduceIte, v0_ltT, v0_ltF, v0_gtT, v0_gtF, v0_leT, v0_leF, v0_geT, v0_geF, v0_eqT, v0_eqF, v0_add, v0_dda, v0_mul, v0_lum, v0_sub, v0_bad, v0_cl, tc]); rw [ht_179_3, ch_179_7, v1', ev_rn, ch_179_9, a1, ev_rs, ch_179_10, put_6, ev_rn, ch_179_11]; (try simp +decide (disch := omega) only [ni_bF, nI_clamp, nI_add, pk_mul, dc_ltT, dc_ltF, dc_leT, dc_leF, dc_eqF, dc_neT, dn_eq, dn_ne, dn_lt, dn_ge, si_at, si_c, si_k, q_at_nI, q_put_nI, ne_eq, not_false_eq_true, not_true_eq_false, ↓reduceIte, v0_ltT, v0_ltF, v0_gtT, v0_gtF, v0_leT, v0_leF, v0_geT, v0_geF, v0_eqT, v0_eqF, v0_add, v0_dda, v0_mul, v0_lum, v0_sub, v0_bad, v0_cl, tc]); rw [b1', ev_rn, ch_179_12, b3', ev_rs, ch_179_13, put_8, ev_rn, ch_179_14]; (try simp +decide (disch := omega) only [ni_bF, nI_clamp, nI_add, pk_mul, dc_ltT, dc_ltF, dc_leT, dc_leF, dc_eqF, dc_neT, dn_eq, dn_ne, dn_lt, dn_ge, si_at, si_c, si_k, q_at_nI, q_put_nI, ne_eq, not_false_eq_true, not_true_eq_false, ↓reduceIte, v0_ltT, v0_ltF, v0_gtT, v0_gtF, v0_leT, v0_leF, v0_geT, v0_geF, v0_eqT, v0_eqF, v0_add, v0_dda, v0_mul, v0_lum, v0_sub, v0_bad, v0_cl, tc]); rw [b5', ev_rn, ch_179_15]
        have rf : ∀ (v : Int32), ((hM8 73 26 = 0 ∧ v = 1) ∨ (hM8 73 26 ≠ 0 ∧ v = 0)) → am_call tb_P (e + 340) 45 [.ref 73] (pr_S, hM, gM) = some (none, (pr_S, am_si hM8 85 rd (hM8 85 rd + v), gM6)) := fun v hv => by
          have p272 : am_fwd (am_call tb_P (e + 338)) (am_run (am_call tb_P (e + 338)) tb_r45_0 0) tb_r45_11 272 [(1, .int (nI (24 * rd + D))), (0, .ref 73)] [] (pr_S, hM3, gM3) = some (none, (pr_S, am_si hM8 85 rd (hM8 85 rd + v), gM6)) := by
            rcases hv with ⟨z, rfl⟩ | ⟨z, rfl⟩
            · rw [ht_45_11, ch_45_11, b2, ev_rn, ch_45_13, b4, ev_rs, ch_45_17]; (try simp +decide (disch := omega) only [ni_bF, nI_clamp, nI_add, pk_mul, dc_ltT, dc_ltF, dc_leT, dc_leF, dc_eqF, dc_neT, dn_eq, dn_ne, dn_lt, dn_ge, si_at, si_c, si_k, q_at_nI, q_put_nI, ne_eq, not_false_eq_true, not_true_eq_false, ↓reduceIte, v0_ltT, v0_ltF, v0_gtT, v0_gtF, v0_leT, v0_leF, v0_geT, v0_geF, v0_eqT, v0_eqF, v0_add, v0_dda, v0_mul, v0_lum, v0_sub, v0_bad, v0_cl, xb, m25]); rw [b6, ev_rn, ch_45_20]; (try simp +decide (disch := omega) only [ni_bF, nI_clamp, nI_add, pk_mul, dc_ltT, dc_ltF, dc_leT, dc_leF, dc_eqF, dc_neT, dn_eq, dn_ne, dn_lt, dn_ge, si_at, si_c, si_k, q_at_nI, q_put_nI, ne_eq, not_false_eq_true, not_true_eq_false, ↓reduceIte, v0_ltT, v0_ltF, v0_gtT, v0_gtF, v0_leT, v0_leF, v0_geT, v0_geF, v0_eqT, v0_eqF, v0_add, v0_dda, v0_mul, v0_lum, v0_sub, v0_bad, v0_cl, xb, m25]); rw [if_neg (fun q => q z), sk_45_12_316, ht_45_13, ch_45_24]; try simp +decide (disch := omega) only [ni_bF, nI_clamp, nI_add, pk_mul, dc_ltT, dc_ltF, dc_leT, dc_leF, dc_eqF, dc_neT, dn_eq, dn_ne, dn_lt, dn_ge, si_at, si_c, si_k, q_at_nI, q_put_nI, ne_eq, not_false_eq_true, not_true_eq_false, ↓reduceIte, v0_ltT, v0_ltF, v0_gtT, v0_gtF, v0_leT, v0_leF, v0_geT, v0_geF, v0_eqT, v0_eqF, v0_add, v0_dda, v0_mul, v0_lum, v0_sub, v0_bad, v0_cl, xb, m25]
            · rw [ht_45_11, ch_45_11, b2, ev_rn, ch_45_13, b4, ev_rs, ch_45_17]; (try simp +decide (disch := omega) only [ni_bF, nI_clamp, nI_add, pk_mul, dc_ltT, dc_ltF, dc_leT, dc_leF, dc_eqF, dc_neT, dn_eq, dn_ne, dn_lt, dn_ge, si_at, si_c, si_k, q_at_nI, q_put_nI, ne_eq, not_false_eq_true, not_true_eq_false, ↓reduceIte, v0_ltT, v0_ltF, v0_gtT, v0_gtF, v0_leT, v0_leF, v0_geT, v0_geF, v0_eqT, v0_eqF, v0_add, v0_dda, v0_mul, v0_lum, v0_sub, v0_bad, v0_cl, xb, m25]); rw [b6, ev_rn, ch_45_20]; (try simp +decide (disch := omega) only [ni_bF, nI_clamp, nI_add, pk_mul, dc_ltT, dc_ltF, dc_leT, dc_leF, dc_eqF, dc_neT, dn_eq, dn_ne, dn_lt, dn_ge, si_at, si_c, si_k, q_at_nI, q_put_nI, ne_eq, not_false_eq_true, not_true_eq_false, ↓reduceIte, v0_ltT, v0_ltF, v0_gtT, v0_gtF, v0_leT, v0_leF, v0_geT, v0_geF, v0_eqT, v0_eqF, v0_add, v0_dda, v0_mul, v0_lum, v0_sub, v0_bad, v0_cl, xb, m25]); rw [if_pos z, ht_45_12, ch_45_23, ht_45_13, ch_45_24]; try simp +decide (disch := omega) only [ni_bF, nI_clamp, nI_add, pk_mul, dc_ltT, dc_ltF, dc_leT, dc_leF, dc_eqF, dc_neT, dn_eq, dn_ne, dn_lt, dn_ge, si_at, si_c, si_k, q_at_nI, q_put_nI, ne_eq, not_false_eq_true, not_true_eq_false, ↓reduceIte, v0_ltT, v0_ltF, v0_gtT, v0_gtF, v0_leT, v0_leF, v0_geT, v0_geF, v0_eqT, v0_eqF, v0_add, v0_dda, v0_mul, v0_lum, v0_sub, v0_bad, v0_cl, xb, m25]
          have p := a2 _ p272
          rw [hn1, ho1] at p
          refine mo_d (d := e + 339) (by omega) ?_
          rw [en_45, ht_45_0, ch_45_0]; (try simp +decide (disch := omega) only [ni_bF, nI_clamp, nI_add, pk_mul, dc_ltT, dc_ltF, dc_leT, dc_leF, dc_eqF, dc_neT, dn_eq, dn_ne, dn_lt, dn_ge, si_at, si_c, si_k, q_at_nI, q_put_nI, ne_eq, not_false_eq_true, not_true_eq_false, ↓reduceIte, v0_ltT, v0_ltF, v0_gtT, v0_gtF, v0_leT, v0_leF, v0_geT, v0_geF, v0_eqT, v0_eqF, v0_add, v0_dda, v0_mul, v0_lum, v0_sub, v0_bad, v0_cl, v24_ltT, v24_ltF, v24_gtT, v24_gtF, v24_leT, v24_leF, v24_geT, v24_geF, v24_eqT, v24_eqF, v24_add, v24_dda, v24_mul, v24_lum, v24_sub, v24_bad, v24_cl, h25, e6, d0, i24, mt, xb]); rw [iT2, ev_rs, ch_45_1]; (try simp +decide (disch := omega) only [ni_bF, nI_clamp, nI_add, pk_mul, dc_ltT, dc_ltF, dc_leT, dc_leF, dc_eqF, dc_neT, dn_eq, dn_ne, dn_lt, dn_ge, si_at, si_c, si_k, q_at_nI, q_put_nI, ne_eq, not_false_eq_true, not_true_eq_false, ↓reduceIte, v0_ltT, v0_ltF, v0_gtT, v0_gtF, v0_leT, v0_leF, v0_geT, v0_geF, v0_eqT, v0_eqF, v0_add, v0_dda, v0_mul, v0_lum, v0_sub, v0_bad, v0_cl, h25, e6, d0, i24, mt, xb]); rw [ht_45_1, ch_45_2]; (try simp +decide (disch := omega) only [ni_bF, nI_clamp, nI_add, pk_mul, dc_ltT, dc_ltF, dc_leT, dc_leF, dc_eqF, dc_neT, dn_eq, dn_ne, dn_lt, dn_ge, si_at, si_c, si_k, q_at_nI, q_put_nI, ne_eq, not_false_eq_true, not_true_eq_false, ↓reduceIte, v0_ltT, v0_ltF, v0_gtT, v0_gtF, v0_leT, v0_leF, v0_geT, v0_geF, v0_eqT, v0_eqF, v0_add, v0_dda, v0_mul, v0_lum, v0_sub, v0_bad, v0_cl, h25, e6, d0, i24, mt, xb]); rw [fM2', ev_rs, ch_45_4]; (try simp +decide (disch := omega) only [ni_bF, nI_clamp, nI_add, pk_mul, dc_ltT, dc_ltF, dc_leT, dc_leF, dc_eqF, dc_neT, dn_eq, dn_ne, dn_lt, dn_ge, si_at, si_c, si_k, q_at_nI, q_put_nI, ne_eq, not_false_eq_true, not_true_eq_false, ↓reduceIte, v0_ltT, v0_ltF, v0_gtT, v0_gtF, v0_leT, v0_leF, v0_geT, v0_geF, v0_eqT, v0_eqF, v0_add, v0_dda, v0_mul, v0_lum, v0_sub, v0_bad, v0_cl, h25, e6, d0, i24, mt, xb]); rw [ht_45_2, ch_45_5]; (try simp +decide (disch := omega) only [ni_bF, nI_clamp, nI_add, pk_mul, dc_ltT, dc_ltF, dc_leT, dc_leF, dc_eqF, dc_neT, dn_eq, dn_ne, dn_lt, dn_ge, si_at, si_c, si_k, q_at_nI, q_put_nI, ne_eq, not_false_eq_true, not_true_eq_false, ↓reduceIte, v0_ltT, v0_ltF, v0_gtT, v0_gtF, v0_leT, v0_leF, v0_geT, v0_geF, v0_eqT, v0_eqF, v0_add, v0_dda, v0_mul, v0_lum, v0_sub, v0_bad, v0_cl, v24_ltT, v24_ltF, v24_gtT, v24_gtF, v24_leT, v24_leF, v24_geT, v24_geF, v24_eqT, v24_eqF, v24_add, v24_dda, v24_mul, v24_lum, v24_sub, v24_bad, v24_cl, h25, e6, d0, i24, mt, xb]); rw [ht_45_3, ch_45_7]; try simp +decide (disch := omega) only [ni_bF, nI_clamp, nI_add, pk_mul, dc_ltT, dc_ltF, dc_leT, dc_leF, dc_eqF, dc_neT, dn_eq, dn_ne, dn_lt, dn_ge, si_at, si_c, si_k, q_at_nI, q_put_nI, ne_eq, not_false_eq_true, not_true_eq_false, ↓reduceIte, v0_ltT, v0_ltF, v0_gtT, v0_gtF, v0_leT, v0_leF, v0_geT, v0_geF, v0_eqT, v0_eqF, v0_add, v0_dda, v0_mul, v0_lum, v0_sub, v0_bad, v0_cl, v1_ltT, v1_ltF, v1_gtT, v1_gtF, v1_leT, v1_leF, v1_geT, v1_geF, v1_eqT, v1_eqF, v1_add, v1_dda, v1_mul, v1_lum, v1_sub, v1_bad, v1_cl, h25, e6, d0, i24, mt, xb]
          exact p
        have aC : pf_C hC8 gC8 N (am_si hC8 32 3 0) gC8 := ⟨fun c _ _ _ q _ => am_si_ne q, by rw [am_si_ne (by decide)], by rw [am_si_ne (by decide)]; exact F8.2.1, fun _ _ _ => rfl⟩
        have oS : ∀ v c, (c < 85 ∨ 90 < c ∨ c = 86) → (am_si hM8 85 rd v) c = hM8 c := fun v c q => am_si_ne (by omega)
        have F9 : ∀ v, fx H0 G0 H1 G1 N rd (am_si hC8 32 3 0) gC8 (am_si hM8 85 rd v) gM6 := fun v => fx_ext (fx_pf F8 aC pf_Mr) (fun _ _ _ => rfl) (fun _ _ => rfl) (oS v) (fun i q => am_si_off (by omega)) (fun c i q1 q2 _ => by rw [am_si_ne (by omega)]) (fun _ _ => rfl)
        rcases R8 with ⟨k8, n8, t8, G8, k0, n0, t0, q, P8, J8, x1, x2, x3, x4, x5, x6, x7, x8, x9, y1, y2, y3, y4, y5, y6⟩ | ⟨k8, n8, w8', Pb, J8⟩
        · obtain ⟨k', j', rfl, rfl, rfl, rfl, z1, z2, z3, z4, z5, z6, z7, z8⟩ := hΦ _ _ _ _ q
          have m8 : hM8 85 rd = nI D := by rw [y3 85 (by decide) (by decide) (by decide) (by decide)]; exact z3.2.2.2.2.1
          have cls' := cls
          refine ⟨_, _, _, _, cls, rf 1 (Or.inl ⟨P8.2.2.1.2.1, rfl⟩), Or.inl ⟨k8, n8, t8, up sz D w, up L (D + 1) t8, up bd D (n8 - 1), up st D n0, ?_⟩⟩
          have P9 : po (am_si hC8 32 3 0) gC8 (am_si hM8 73 32 0) gM6 B N M rd k8 0 n8 t8 0 [] := by
            have PQ : ps_O hC8 gC8 hM8 gM6 B N M rd hC8 gC8 hM8 gM6 k8 0 n8 t8 w (pg_G t w ++ []) := ⟨pf_Cr F8.2.1, pf_Mr, by rw [List.append_nil]; exact P8⟩
            exact (po_leave (w' := 0) (o' := 0) PQ rfl (fun c q => am_si_ne q) (fun x q => am_si_off (by omega)) (by rw [am_si_off (by decide)]; exact P8.2.1.2.1) (am_si_at _ _ _ _) (fun c q => am_si_ne q) (fun x _ q2 => am_si_off (by omega)) (by rw [am_si_off (by decide)]; exact P8.2.2.1.2.2.1) (am_si_at _ _ _ _) (by omega) (by omega)).2.2
          have dq48 : dq n0 t D rd hC3 gC3 hM3 gM3 (am_si hC8 32 3 0) gC8 (am_si hM8 85 rd (hM8 85 rd + 1)) gM6 := by
            refine ⟨fun c i q1 q2 q3 => ?_, fun i _ => by rw [y2], fun c i q1 q2 q3 => ?_, fun c i q1 q2 q3 => ?_, fun c i q1 q2 q3 => ?_, fun i _ => by rw [y5]⟩
            · rw [am_si_ne (by omega)]
              by_cases ee : c = 8
              · subst ee; rw [y1, am_si_off (by omega), am_si_ne (by decide)]
              · rw [x9 c q1 (by omega)]
                by_cases e2 : c = 6
                · subst e2; rw [am_si_off (by omega)]
                · rw [am_si_ne e2]
            · rw [am_si_ne (by omega), x7 c i q1 q2 (by omega), am_si_ne (by omega)]
            · rw [am_si_ne (by omega), x8 c i q1 q2 q3, am_si_ne (by omega)]
            · rw [am_si_ne (by omega)]
              by_cases ee : c = 88
              · subst ee; rw [y4, am_si_off (by omega)]
              · rw [y3 c (by omega) q2 (by omega) ee]
          have dqT := dq_t dq1 (dq_t z4 dq48 (Nat.le_refl _) (Nat.le_refl _)) (Nat.le_refl _) (Nat.le_refl _)
          rw [← hLt] at dqT
          have dn := dd_dq (n' := n8) dt dqT (by omega)
          refine ⟨F9 _, po_ext P9 (fun _ _ _ => rfl) rfl rfl (fun _ _ => rfl) (fun c q => si_out (by omega)) (fun _ _ => rfl), ?_, ?_, by omega, J8, up_at, ⟨?_, fun i hi => ?_⟩, w, by rw [am_si_ne (by decide)]; exact w8⟩
          · rw [am_si_ne (by decide), y6, am_si_ne (by decide)]; exact z3.2.2.2.1
          · rw [am_si_at, m8, nI_1]
          · rw [up_ne (by omega)]; exact dt.1
          · by_cases ee : i = D
            · subst ee
              rw [up_at, up_at, up_ne (show i ≠ i + 1 by omega), up_at, up_at, hLt]
              refine ⟨?_, ?_, ?_, z1, ?_, ?_, ?_, ?_, ?_, by omega, x2, Nat.le_refl _, ⟨205, 40, by omega, by omega, ?_⟩, fun a a1 a2 => ?_⟩
              · rw [y5, z8, ho1, sl_atL, y2, z6, hg1, sl_atL]; exact nmE
              · rw [am_si_ne (by decide), y3 87 (by decide) (by decide) (by decide) (by decide), z7 87 (by decide) (by decide), hn1, am_si_ne (by decide), am_si_ne (by decide), am_si_ne (by decide), am_si_at, am_si_ne (by decide), x9 5 (by decide) (by decide), am_si_ne (by decide), z5 5 (by decide) (by decide), hh1, am_si_ne (by decide), am_si_ne (by decide), am_si_ne (by decide), am_si_ne (by decide), am_si_at, tpl, tx2]
              · rw [am_si_ne (by decide), x9 6 (by decide) (by decide), am_si_at]; exact z2
              · rw [am_si_ne (by decide), y3 90 (by decide) (by decide) (by decide) (by decide)]; exact z3.2.2.1
              · rw [am_si_ne (by decide), x9 7 (by decide) (by decide), am_si_ne (by decide), z5 7 (by decide) (by decide), hh1, am_si_ne (by decide), am_si_ne (by decide), am_si_at]
              · rw [am_si_ne (by decide), y3 89 (by decide) (by decide) (by decide) (by decide), z7 89 (by decide) (by decide), hn1, am_si_ne (by decide), am_si_ne (by decide), am_si_at]
              · rw [am_si_ne (by decide), y1, am_si_at]; exact x3
              · rw [am_si_ne (by decide), y4, am_si_at]; exact x4
              · exact wfx_cg (n := n8) x5 (by omega) (fun c i q1 q2 q3 => by rw [am_si_ne (by omega)])
              · rw [am_si_ne (by decide), am_si_ne (by decide)]
                rcases Nat.lt_or_ge a (t + w) with l | l
                · rw [x7 _ a (by decide) (by decide) l, x7 _ a (by decide) (by decide) l, am_si_ne (by decide), am_si_ne (by decide)]
                  obtain ⟨g1', g2'⟩ := z3.2.2.2.2.2.2 a a1 l
                  exact ⟨g1', fun _ => l, fun _ => g2'⟩
                · obtain ⟨g1', g2'⟩ := x6 a l a2
                  exact ⟨g1', fun z => absurd z g2', fun z => absurd z (by omega)⟩
            · have hi' : i < D := by omega
              rw [up_ne ee, up_ne ee, up_ne ee, up_ne (show i ≠ D + 1 by omega), up_ne (show i + 1 ≠ D + 1 by omega), up_at]
              obtain ⟨r1, r2, r3, r4, r5, r6, r7, r8, r9, s1, s2, s3, s4, s5⟩ := dn.2 i hi'
              exact ⟨r1, r2, r3, r4, r5, r6, r7, r8, r9, s1, s2, by omega, s4, s5⟩
        · have pb9 : ∀ v, pb (am_si hC8 32 3 0) (am_si hM8 85 rd v) B N M k8 n8 w8' := fun v => by
            refine pb_ext ?_ (fun _ _ _ => rfl) (oS v)
            obtain ⟨f, p, q1, q2, q3, q4, q5⟩ := Pb
            exact ⟨f, p, by rw [am_si_off (by decide)]; exact q1, q2, by rw [am_si_off (by decide)]; exact q3, by rw [am_si_ne (by decide)]; exact q4, q5⟩
          by_cases z : hM8 73 26 = 0
          · exact ⟨_, _, _, _, cls, rf 1 (Or.inl ⟨z, rfl⟩), Or.inr ⟨F9 _, k8, n8, w8', pb9 _, J8⟩⟩
          · exact ⟨_, _, _, _, cls, rf 0 (Or.inr ⟨z, rfl⟩), Or.inr ⟨F9 _, k8, n8, w8', pb9 _, J8⟩⟩
  · have tc : hC 1 1 ≠ 258 := by rw [P.1.1.2.1]; exact fun q => c ((cl_e (b := 2) (tok_l X' _) (by decide)).mp q)
    have iF := em_isF (gM := gM) (v := 2) (e + 338) e6 hk (fun _ => by rw [tk]; exact fun q => c ((nI_eq (b := 2) (by have := tok_l X' (tp B N k); omega) (by decide)).mp q))
    have od := em_odd (gM := gM) (e + 337) f26 e6 hk (by rw [tk]; exact fun q => P.1.2.1 ((nI_eq (b := 1) (by have := tok_l X' (tp B N k); omega) (by decide)).mp q))
    refine ⟨_, _, _, _, ?_, ?_, Or.inr (bad 2 (by decide))⟩
    · rw [en_179, ht_179_0, ch_179_0, if_neg tc, ea_pfail _ f0, ev_rn, ch_179_2]
    · rw [en_45, ht_45_0, ch_45_0]; (try simp +decide (disch := omega) only [ni_bF, nI_clamp, nI_add, pk_mul, dc_ltT, dc_ltF, dc_leT, dc_leF, dc_eqF, dc_neT, dn_eq, dn_ne, dn_lt, dn_ge, si_at, si_c, si_k, q_at_nI, q_put_nI, ne_eq, not_false_eq_true, not_true_eq_false, ↓reduceIte, v0_ltT, v0_ltF, v0_gtT, v0_gtF, v0_leT, v0_leF, v0_geT, v0_geF, v0_eqT, v0_eqF, v0_add, v0_dda, v0_mul, v0_lum, v0_sub, v0_bad, v0_cl, v24_ltT, v24_ltF, v24_gtT, v24_gtF, v24_leT, v24_leF, v24_geT, v24_geF, v24_eqT, v24_eqF, v24_add, v24_dda, v24_mul, v24_lum, v24_sub, v24_bad, v24_cl, h25]); rw [iF, ev_rs, ch_45_1]; (try simp +decide (disch := omega) only [ni_bF, nI_clamp, nI_add, pk_mul, dc_ltT, dc_ltF, dc_leT, dc_leF, dc_eqF, dc_neT, dn_eq, dn_ne, dn_lt, dn_ge, si_at, si_c, si_k, q_at_nI, q_put_nI, ne_eq, not_false_eq_true, not_true_eq_false, ↓reduceIte, v0_ltT, v0_ltF, v0_gtT, v0_gtF, v0_leT, v0_leF, v0_geT, v0_geF, v0_eqT, v0_eqF, v0_add, v0_dda, v0_mul, v0_lum, v0_sub, v0_bad, v0_cl, h25]); rw [od, ev_rn, ch_45_3]
end DS
