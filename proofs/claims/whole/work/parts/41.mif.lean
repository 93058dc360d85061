/-! the reference: foretellIf, foretellLambda -/
theorem us_either_comm : ∀ a ∈ us_codes, ∀ b ∈ us_codes, us_either a b = us_either b a := by decide +kernel
section EM
variable {h0 : Nat → Nat → Int32} {K M A B C SZ R : Nat → Int32} {hl : Nat → Nat → Int64} {nd z NT hf : Nat} {RW : Nat → Nat → Int32} {S : Nat → Int32} {h : Nat → Nat → Int32}
/-- what foretellIf's loop adds from t on -/
def mi_R (RW : Nat → Nat → Int32) (ρ α β NT t : Nat) : Nat → Int32 := fun x => if t ≤ x ∧ x < NT then us_both (RW ρ x) (us_either (RW α x) (RW β x)) else RW ρ x
theorem mi_next {ρ α β t : Nat} (ha : α ≠ ρ) (hb : β ≠ ρ) (ht : t < NT) : fm_u (fm_u RW ρ (fi_u (RW ρ) t (us_both (RW ρ t) (us_either (RW α t) (RW β t))))) ρ (mi_R (fm_u RW ρ (fi_u (RW ρ) t (us_both (RW ρ t) (us_either (RW α t) (RW β t))))) ρ α β NT (t + 1)) = fm_u RW ρ (mi_R RW ρ α β NT t) := by
  rw [fm_uu]
  congr 1
  funext x
  unfold mi_R
  rw [fm_at, fm_ne ha, fm_ne hb]
  unfold fi_u
  by_cases c : x = t
  · subst c
    rw [if_neg (by omega), if_pos rfl, if_pos (by omega)]
  · rw [if_neg c]
    by_cases c2 : t ≤ x ∧ x < NT
    · rw [if_pos c2, if_pos (by omega)]
    · rw [if_neg c2, if_neg (by omega)]
theorem mi_end {ρ α β t : Nat} (ht : NT ≤ t) : fm_u RW ρ (mi_R RW ρ α β NT t) = RW := by
  funext x
  unfold fm_u mi_R
  by_cases c : x = ρ
  · rw [if_pos c]; funext y; rw [if_neg (by omega), c]
  · rw [if_neg c]
theorem mi_ok {ρ α β T t : Nat} (ht : t < 200) (ha : α ≠ ρ) (hb : β ≠ ρ) (hα : α < T) (hβ : β < T) (hρ : ρ < T) (hc : ∀ r x, r < T → x < 200 → (r = ρ ∨ r = α ∨ r = β) → RW r x ∈ us_codes) : ∀ r x, r < T → x < 200 → (r = ρ ∨ r = α ∨ r = β) → fm_u RW ρ (fi_u (RW ρ) t (us_both (RW ρ t) (us_either (RW α t) (RW β t)))) r x ∈ us_codes := by
  intro r x h1 h2 h3
  unfold fm_u fi_u
  by_cases c : r = ρ
  · rw [if_pos c]
    by_cases c2 : x = t
    · rw [if_pos c2]
      exact us_both_in _ (hc ρ t hρ ht (Or.inl rfl)) _ (us_either_in _ (hc α t hα ht (Or.inr (Or.inl rfl))) _ (hc β t hβ ht (Or.inr (Or.inr rfl))))
    · rw [if_neg c2]; exact hc ρ x hρ h2 (Or.inl rfl)
  · rw [if_neg c]; exact hc r x h1 h2 h3
theorem mi_loop {ρ α β T T0 : Nat} (d : Nat) (x2 x3 : Int32) (hf2 : hf < 2) (hNT : NT ≤ 200) (e7 : h0 73 7 = nI hf) (e86 : h0 86 hf = nI NT) (ha : α ≠ ρ) (hb : β ≠ ρ) (hα : α < T) (hβ : β < T) (hρ : ρ < T) (hT : T ≤ 140) (hT0 : T0 ≤ T) : ∀ (q t n : Nat) (x8 : Int32) (RW : Nat → Nat → Int32) (h : Nat → Nat → Int32), t + q = NT → q ≤ n → (∀ r x, r < T → x < 200 → (r = ρ ∨ r = α ∨ r = β) → RW r x ∈ us_codes) → fm_S h0 h T RW S →
    ∃ h', am_fwd (am_call tb_P (d + 1)) (am_run (am_call tb_P (d + 1)) tb_r58_0 n) tb_r58_1 59 [(7, .int (nI t)), (8, .int x8), (6, .int (nI (200 * β))), (5, .int (nI (200 * α))), (4, .int (nI T0)), (0, .ref 73), (1, .int (nI (200 * ρ))), (2, .int x2), (3, .int x3)] [] (pr_S, h, hl) = some (none, (pr_S, h', hl)) ∧ fm_S h0 h' T0 (fm_u RW ρ (mi_R RW ρ α β NT t)) S := by
  intro q
  induction q with
  | zero =>
    intro t n x8 RW h h1 h2 h3 h4
    have q7 : h 73 7 = nI hf := (h4.2.1 _ (by decide)).trans e7
    have q86 : h 86 hf = nI NT := by rw [h4.1 _ (by decide) (by decide) (by decide) (by decide)]; exact e86
    refine ⟨_, ?_, by rw [mi_end (by omega)]; exact fm_pop hT0 h4⟩
    rw [ht_58_1, ch_58_11]; (try simp +decide (disch := omega) only [ni_bF, nI_clamp, nI_add, pk_mul, dc_ltT, dc_ltF, dc_leT, dc_leF, dc_eqF, dc_neT, dn_eq, dn_ne, dn_lt, dn_ge, si_at, si_c, si_k, ne_eq, not_false_eq_true, not_true_eq_false, ↓reduceIte, q7, q86]); rw [ht_58_2, ch_58_12]
  | succ q ih =>
    intro t n x8 RW h h1 h2 h3 h4
    obtain ⟨n, rfl⟩ : ∃ n', n = n' + 1 := ⟨n - 1, by omega⟩
    have q7 : h 73 7 = nI hf := (h4.2.1 _ (by decide)).trans e7
    have q86 : h 86 hf = nI NT := by rw [h4.1 _ (by decide) (by decide) (by decide) (by decide)]; exact e86
    have ea := h4.2.2.2.1 α t hα (by omega)
    have eb := h4.2.2.2.1 β t hβ (by omega)
    have ea1 := ea.1
    have ea2 := ea.2
    have eb1 := eb.1
    have eb2 := eb.2
    have ca := h3 α t hα (by omega) (Or.inr (Or.inl rfl))
    have cb := h3 β t hβ (by omega) (Or.inr (Or.inr rfl))
    have p := us_either_md _ ca _ cb
    obtain ⟨h5, r1, r2⟩ := fm_add (hl := hl) d t (us_either_in _ ca _ cb) (h3 ρ t hρ (by omega) (Or.inl rfl)) hρ hT (by omega) h4
    obtain ⟨h', r3, r4⟩ := ih (t + 1) n (uk_c (us_either (RW α t) (RW β t))) _ h5 (by omega) (by omega) (mi_ok (by omega) ha hb hα hβ hρ h3) r2
    rw [mi_next ha hb (by omega)] at r4
    refine ⟨h', ?_, r4⟩
    rw [ht_58_1, ch_58_11]; (try simp +decide (disch := omega) only [ni_bF, nI_clamp, nI_add, pk_mul, dc_ltT, dc_ltF, dc_leT, dc_leF, dc_eqF, dc_neT, dn_eq, dn_ne, dn_lt, dn_ge, si_at, si_c, si_k, ne_eq, not_false_eq_true, not_true_eq_false, ↓reduceIte, q7, q86, ea1, ea2, eb1, eb2]); rw [ch_58_13]; (try simp +decide (disch := omega) only [ni_bF, nI_clamp, nI_add, pk_mul, dc_ltT, dc_ltF, dc_leT, dc_leF, dc_eqF, dc_neT, dn_eq, dn_ne, dn_lt, dn_ge, si_at, si_c, si_k, ne_eq, not_false_eq_true, not_true_eq_false, ↓reduceIte, q7, q86, ea1, ea2, eb1, eb2]); rw [p.1, em_eitherDemand _ _ _ _ _ _ _, ev_rs, ch_58_9, p.2, r1, ev_rn, ch_58_10, sk_58_2_59, nI_1, lp_58_59]
    exact r3
theorem mi_first {ρ α β T T0 : Nat} (d n : Nat) (x2 x3 : Int32) (hf2 : hf < 2) (hNT : NT ≤ 200) (e7 : h0 73 7 = nI hf) (e86 : h0 86 hf = nI NT) (ha : α ≠ ρ) (hb : β ≠ ρ) (hα : α < T) (hβ : β < T) (hρ : ρ < T) (hT : T ≤ 140) (hT0 : T0 ≤ T) (h2 : NT ≤ n) (h3 : ∀ r x, r < T → x < 200 → (r = ρ ∨ r = α ∨ r = β) → RW r x ∈ us_codes) (h4 : fm_S h0 h T RW S) :
    ∃ h', am_fwd (am_call tb_P (d + 1)) (am_run (am_call tb_P (d + 1)) tb_r58_0 n) tb_r58_1 59 [(7, .int (nI 0)), (6, .int (nI (200 * β))), (5, .int (nI (200 * α))), (4, .int (nI T0)), (0, .ref 73), (1, .int (nI (200 * ρ))), (2, .int x2), (3, .int x3)] [] (pr_S, h, hl) = some (none, (pr_S, h', hl)) ∧ fm_S h0 h' T0 (fm_u RW ρ (mi_R RW ρ α β NT 0)) S := by
  have q7 : h 73 7 = nI hf := (h4.2.1 _ (by decide)).trans e7
  have q86 : h 86 hf = nI NT := by rw [h4.1 _ (by decide) (by decide) (by decide) (by decide)]; exact e86
  by_cases c0 : NT = 0
  · refine ⟨_, ?_, by rw [mi_end (by omega)]; exact fm_pop hT0 h4⟩
    rw [ht_58_1, ch_58_6]; (try simp +decide (disch := omega) only [ni_bF, nI_clamp, nI_add, pk_mul, dc_ltT, dc_ltF, dc_leT, dc_leF, dc_eqF, dc_neT, dn_eq, dn_ne, dn_lt, dn_ge, si_at, si_c, si_k, ne_eq, not_false_eq_true, not_true_eq_false, ↓reduceIte, q7, q86]); rw [ht_58_2, ch_58_7]
  · obtain ⟨n, rfl⟩ : ∃ n', n = n' + 1 := ⟨n - 1, by omega⟩
    have ea := h4.2.2.2.1 α 0 hα (by omega)
    have eb := h4.2.2.2.1 β 0 hβ (by omega)
    have ea1 := ea.1
    have ea2 := ea.2
    have eb1 := eb.1
    have eb2 := eb.2
    have ca := h3 α 0 hα (by omega) (Or.inr (Or.inl rfl))
    have cb := h3 β 0 hβ (by omega) (Or.inr (Or.inr rfl))
    have p := us_either_md _ ca _ cb
    obtain ⟨h5, r1, r2⟩ := fm_add (hl := hl) d 0 (us_either_in _ ca _ cb) (h3 ρ 0 hρ (by omega) (Or.inl rfl)) hρ hT (by omega) h4
    obtain ⟨h', r3, r4⟩ := mi_loop (hl := hl) d x2 x3 hf2 hNT e7 e86 ha hb hα hβ hρ hT hT0 (NT - 1) (0 + 1) n (uk_c (us_either (RW α 0) (RW β 0))) _ h5 (by omega) (by omega) (mi_ok (by omega) ha hb hα hβ hρ h3) r2
    rw [mi_next ha hb (by omega)] at r4
    refine ⟨h', ?_, r4⟩
    rw [ht_58_1, ch_58_6]; (try simp +decide (disch := omega) only [ni_bF, nI_clamp, nI_add, pk_mul, dc_ltT, dc_ltF, dc_leT, dc_leF, dc_eqF, dc_neT, dn_eq, dn_ne, dn_lt, dn_ge, si_at, si_c, si_k, ne_eq, not_false_eq_true, not_true_eq_false, ↓reduceIte, q7, q86, ea1, ea2, eb1, eb2]); rw [ch_58_8]; (try simp +decide (disch := omega) only [ni_bF, nI_clamp, nI_add, pk_mul, dc_ltT, dc_ltF, dc_leT, dc_leF, dc_eqF, dc_neT, dn_eq, dn_ne, dn_lt, dn_ge, si_at, si_c, si_k, ne_eq, not_false_eq_true, not_true_eq_false, ↓reduceIte, q7, q86, ea1, ea2, eb1, eb2]); rw [p.1, em_eitherDemand _ _ _ _ _ _ _, ev_rs, ch_58_9, p.2, r1, ev_rn, ch_58_10, sk_58_2_59, nI_1, lp_58_59]
    exact r3
end EM
