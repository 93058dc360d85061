/-! the reference: foretellIf, foretellLambda, whole -/
section EM
variable {h0 : Nat → Nat → Int32} {K M A B C SZ R : Nat → Int32} {hl : Nat → Nat → Int64} {nd z NT hf NN : Nat}
variable {N f g k s a b : Nat} {G : List Nat} {D : Int32} {ρ T : Nat} {RW : Nat → Nat → Int32} {S : Nat → Int32} {d n : Nat} {h : Nat → Nat → Int32}
theorem fm_rd {c : Nat} (hs : fm_S h0 h T RW S) (h1 : c ≠ 99 ∧ c ≠ 100 ∧ c ≠ 101 ∧ c ≠ 73) (x : Nat) : h c x = h0 c x := by rw [hs.1 c h1.1 h1.2.1 h1.2.2.1 h1.2.2.2]
theorem fm_if {f' g' i j l c e : Nat} (hR : ∀ i, R i ∈ us_codes) (IH : fm_C h0 K M A B C SZ R hl nd z NT NN N) (hzb : z ≤ 2900) (hNT : NT ≤ 200) (hf2 : hf < 2) (e7 : h0 73 7 = nI hf) (e86 : h0 86 hf = nI NT) (hp : rp_N K M A B C h0 z k) (hk : k < NN) (hNN : NN ≤ 2900) (hG : ∀ t ∈ G, t < a) (hb : b ≤ NT) (hD : D ∈ us_dm) (hv : vs_ok (RW ρ) S) (hz : ∀ t, a ≤ t → t < b → RW ρ t = 0) (hr : ρ < T) (hT : T + 2 * g ≤ 140) (hd : 4 * f + 3 ≤ d) (hs : fm_S h0 h T RW S) (hK : K k = 6) (q1 : f' < f) (q2 : g' < g) (q3 : A k = nI i) (q4 : B k = nI j) (q5 : C k = nI l) (e0 : k = l + 1) (w1 : wf_N K M A B C nd N f' g' i s a c G) (w2 : wf_N K M A B C nd N f' g' j (i + 1) c e G) (w3 : wf_N K M A B C nd N f' g' l (j + 1) e b G) :
    ∃ h', am_call tb_P d 58 [.ref 73, .int (nI (200 * ρ)), .int (nI (z + k)), .int D] (pr_S, h, hl) = some (none, (pr_S, h', hl)) ∧ fm_S h0 h' T (fm_u RW ρ (ft_v (RW ρ) (ft_p (ft K M A B C SZ R N i 0) (ft_e (ft K M A B C SZ R N l D) (ft K M A B C SZ R N j D))))) (ft_w S (ft_p (ft K M A B C SZ R N i 0) (ft_e (ft K M A B C SZ R N l D) (ft K M A B C SZ R N j D)))) := by
  obtain ⟨d, rfl⟩ : ∃ d', d = d' + 2 := ⟨d - 2, by omega⟩
  have o1 := wf_ord w1
  have o2 := wf_ord w2
  have o3 := wf_ord w3
  have hG2 : ∀ t ∈ G, t < c := fun t ht => by have := hG t ht; omega
  have hG3 : ∀ t ∈ G, t < e := fun t ht => by have := hG t ht; omega
  have X1 := ft_good (SZ := SZ) hR N _ _ _ _ _ _ _ 0 w1 (by omega) hG (by omega) (by decide)
  have X2 := ft_good (SZ := SZ) hR N _ _ _ _ _ _ _ D w2 (by omega) hG2 (by omega) hD
  have X3 := ft_good (SZ := SZ) hR N _ _ _ _ _ _ _ D w3 (by omega) hG3 (by omega) hD
  obtain ⟨pa, pb, pc, pe⟩ := hp.2.2.2.2.2.2.1 hK
  rw [q3, nI_add] at pb
  rw [q4, nI_add] at pc
  rw [q5, nI_add] at pe
  obtain ⟨h1, r1, s1⟩ := fm_call IH w1 (by omega) hNN hG (by omega) (by decide : (0 : Int32) ∈ us_dm) hv (fun t h3 h4 => hz t h3 (by omega)) hr (by omega) (show 4 * f' + 5 ≤ d + 1 by omega) hs
  obtain ⟨h2, r2, s2⟩ := fm_empty (hl := hl) d (by omega) s1
  obtain ⟨h3, r3, s3⟩ := fm_empty (hl := hl) d (by omega) s2
  have v1 := vs_next hv X1
  have n1 : T ≠ T + 1 := by omega
  have n2 : ρ ≠ T := by omega
  have n3 : ρ ≠ T + 1 := by omega
  obtain ⟨h4, r4, s4⟩ := fm_call (ρ := T) IH w2 (by omega) hNN hG2 (by omega) hD (by rw [fm_ne n1, fm_at]; exact vs_zero v1) (fun t _ _ => by rw [fm_ne n1, fm_at]) (by omega) (by omega) (show 4 * f' + 5 ≤ d + 1 by omega) s3
  rw [fm_ne (V := fun _ => 0) (r := T + 1) n1, fm_at] at s4
  have v2 := vs_next (vs_zero v1) X2
  obtain ⟨h5, r5, s5⟩ := fm_call (ρ := T + 1) IH w3 (by omega) hNN hG3 (by omega) hD (by rw [fm_ne (Ne.symm n1), fm_at]; exact vs_zero v2) (fun t _ _ => by rw [fm_ne (Ne.symm n1), fm_at]) (by omega) (by omega) (show 4 * f' + 5 ≤ d + 1 by omega) s4
  rw [fm_ne (V := ft_v (fun _ => 0) (ft K M A B C SZ R N j D)) (r := T) (Ne.symm n1), fm_at] at s5
  have ea : ∀ X Y Z U V, fm_u (fm_u (fm_u (fm_u (fm_u RW ρ X) T Y) (T + 1) Z) T U) (T + 1) V T = U := fun X Y Z U V => by rw [fm_ne n1, fm_at]
  have eb : ∀ X Y Z U V, fm_u (fm_u (fm_u (fm_u (fm_u RW ρ X) T Y) (T + 1) Z) T U) (T + 1) V (T + 1) = V := fun X Y Z U V => by rw [fm_at]
  have er : ∀ X Y Z U V, fm_u (fm_u (fm_u (fm_u (fm_u RW ρ X) T Y) (T + 1) Z) T U) (T + 1) V ρ = X := fun X Y Z U V => by rw [fm_ne n3, fm_ne n2, fm_ne n3, fm_ne n2, fm_at]
  have v3 := vs_next (vs_zero v2) X3
  obtain ⟨h6, r6, s6⟩ := mi_first (hl := hl) (ρ := ρ) (α := T) (β := T + 1) (T0 := T) d 999999 (nI (z + k)) D hf2 hNT e7 e86 (Ne.symm n2) (Ne.symm n3) (by omega) (by omega) (by omega) (by omega) (by omega) (by omega) (fun r x _ hx hc => by
    rcases hc with hc | hc | hc
    · rw [hc, er]; exact (v1 x hx).1
    · rw [hc, ea]; exact (v2 x hx).1
    · rw [hc, eb]; exact (v3 x hx).1) s5
  refine ⟨h6, ?_, fm_cg s6 (fun r t ht h9 => ?_) (fun t ht => ?_)⟩
  · have g1 := (fm_rd hs (c := 80) (by decide) (z + k)).trans pb
    have g2 := (fm_rd s3 (c := 81) (by decide) (z + k)).trans pc
    have g3 := (fm_rd s4 (c := 82) (by decide) (z + k)).trans pe
    have g4 := s1.2.2.1
    rw [en_58, ht_58_0, ch_58_0]; (try simp +decide (disch := omega) only [ni_bF, nI_clamp, nI_add, pk_mul, dc_ltT, dc_ltF, dc_leT, dc_leF, dc_eqF, dc_neT, dn_eq, dn_ne, dn_lt, dn_ge, si_at, si_c, si_k, ne_eq, not_false_eq_true, not_true_eq_false, ↓reduceIte, g1, g2, g3]); rw [r1, ev_rn, ch_58_1, g4, r2, ev_rs, ch_58_2, r3, ev_rs, ch_58_3]; (try simp +decide (disch := omega) only [ni_bF, nI_clamp, nI_add, pk_mul, dc_ltT, dc_ltF, dc_leT, dc_leF, dc_eqF, dc_neT, dn_eq, dn_ne, dn_lt, dn_ge, si_at, si_c, si_k, ne_eq, not_false_eq_true, not_true_eq_false, ↓reduceIte, g1, g2, g3]); rw [r4, ev_rn, ch_58_4]; (try simp +decide (disch := omega) only [ni_bF, nI_clamp, nI_add, pk_mul, dc_ltT, dc_ltF, dc_leT, dc_leF, dc_eqF, dc_neT, dn_eq, dn_ne, dn_lt, dn_ge, si_at, si_c, si_k, ne_eq, not_false_eq_true, not_true_eq_false, ↓reduceIte, g1, g2, g3]); rw [r5, ev_rn, ch_58_5]
    exact r6
  · by_cases cr : r = ρ
    · subst cr
      rw [fm_at, fm_at]
      unfold mi_R
      rw [er, ea, eb, ft_v0 X2 h9, ft_v0 X3 h9]
      have ee : ft_e (ft K M A B C SZ R N l D) (ft K M A B C SZ R N j D) t = us_either (ft K M A B C SZ R N l D t) (ft K M A B C SZ R N j D t) := if_pos h9
      unfold ft_v
      rw [ft_pl h9, ee, us_either_comm _ ((X3 t).1 h9).1 _ ((X2 t).1 h9).1]
      have as := us_both_assoc _ (hv t h9).1 _ ((X1 t).1 h9).1 _ (us_either_in _ ((X2 t).1 h9).1 _ ((X3 t).1 h9).1)
      by_cases cN : 0 ≤ t ∧ t < NT
      · rw [if_pos cN]; exact as
      · rw [if_neg cN, ← as]
        have nm : t ∉ G := fun e => by have := hG t e; omega
        rw [((X2 t).1 h9).2 nm, ((X3 t).1 h9).2 nm, us_e00]
        exact ((us_both_zero _ (us_both_in _ (hv t h9).1 _ ((X1 t).1 h9).1)).2).symm
    · rw [fm_ne cr, fm_ne (by omega), fm_ne (by omega), fm_ne (by omega), fm_ne (by omega), fm_ne cr, fm_ne cr]
  · unfold ft_w
    rw [ft_ph, show ft_e (ft K M A B C SZ R N l D) (ft K M A B C SZ R N j D) (200 + t) = us_max (ft K M A B C SZ R N l D (200 + t)) (ft K M A B C SZ R N j D (200 + t)) from if_neg (by omega), us_max_assoc, us_max_assoc, us_max_comm (ft K M A B C SZ R N l D (200 + t))]
/-- what foretellLambda's loop adds from t on -/
def ml_R (RW : Nat → Nat → Int32) (ρ α NT t : Nat) : Nat → Int32 := fun x => if t ≤ x ∧ x < NT then us_both (RW ρ x) (us_many (RW α x)) else RW ρ x
theorem ml_next {ρ α t : Nat} (ha : α ≠ ρ) (ht : t < NT) : fm_u (fm_u RW ρ (fi_u (RW ρ) t (us_both (RW ρ t) (us_many (RW α t))))) ρ (ml_R (fm_u RW ρ (fi_u (RW ρ) t (us_both (RW ρ t) (us_many (RW α t))))) ρ α NT (t + 1)) = fm_u RW ρ (ml_R RW ρ α NT t) := by
  rw [fm_uu]
  congr 1
  funext x
  unfold ml_R
  rw [fm_at, fm_ne ha]
  unfold fi_u
  by_cases c : x = t
  · subst c
    rw [if_neg (by omega), if_pos rfl, if_pos (by omega)]
  · rw [if_neg c]
    by_cases c2 : t ≤ x ∧ x < NT
    · rw [if_pos c2, if_pos (by omega)]
    · rw [if_neg c2, if_neg (by omega)]
theorem ml_end {ρ α t : Nat} (ht : NT ≤ t) : fm_u RW ρ (ml_R RW ρ α NT t) = RW := by
  funext x
  unfold fm_u ml_R
  by_cases c : x = ρ
  · rw [if_pos c]; funext y; rw [if_neg (by omega), c]
  · rw [if_neg c]
theorem us_many_c : ∀ a ∈ us_codes, (if uk_c a ≠ 0 then (2 : Int32) else 0) = uk_c (us_many a) ∧ (if uk_d a ≠ 0 then (4 : Int32) else 0) = uk_d (us_many a) := by decide +kernel
theorem ml_loop {ρ α T T0 : Nat} (d : Nat) (x2 x3 : Int32) (hf2 : hf < 2) (hNT : NT ≤ 200) (e7 : h0 73 7 = nI hf) (e86 : h0 86 hf = nI NT) (ha : α ≠ ρ) (hα : α < T) (hρ : ρ < T) (hT : T ≤ 140) (hT0 : T0 ≤ T) : ∀ (q t n : Nat) (RW : Nat → Nat → Int32) (h : Nat → Nat → Int32), t + q = NT → q ≤ n → (∀ r x, r < T → x < 200 → (r = ρ ∨ r = α) → RW r x ∈ us_codes) → fm_S h0 h T RW S →
    ∃ h', am_fwd (am_call tb_P (d + 1)) (am_run (am_call tb_P (d + 1)) tb_r59_0 n) tb_r59_5 98 [(6, .int (nI t)), (5, .int (nI (200 * α))), (4, .int (nI T0)), (0, .ref 73), (1, .int (nI (200 * ρ))), (2, .int x2), (3, .int x3)] [] (pr_S, h, hl) = some (none, (pr_S, h', hl)) ∧ fm_S h0 h' T0 (fm_u RW ρ (ml_R RW ρ α NT t)) S := by
  intro q
  induction q with
  | zero =>
    intro t n RW h h1 h2 h3 h4
    have q7 : h 73 7 = nI hf := (h4.2.1 _ (by decide)).trans e7
    have q86 : h 86 hf = nI NT := by rw [h4.1 _ (by decide) (by decide) (by decide) (by decide)]; exact e86
    refine ⟨_, ?_, by rw [ml_end (by omega)]; exact fm_pop hT0 h4⟩
    rw [ht_59_5, ch_59_11]; (try simp +decide (disch := omega) only [ni_bF, nI_clamp, nI_add, pk_mul, dc_ltT, dc_ltF, dc_leT, dc_leF, dc_eqF, dc_neT, dn_eq, dn_ne, dn_lt, dn_ge, si_at, si_c, si_k, ne_eq, not_false_eq_true, not_true_eq_false, ↓reduceIte, v0_ltT, v0_ltF, v0_gtT, v0_gtF, v0_leT, v0_leF, v0_geT, v0_geF, v0_eqT, v0_eqF, v0_add, v0_dda, v0_mul, v0_lum, v0_sub, v0_bad, v0_cl, q7, q86]); rw [sk_59_6_161, ht_59_10, ch_59_12]
  | succ q ih =>
    intro t n RW h h1 h2 h3 h4
    obtain ⟨n, rfl⟩ : ∃ n', n = n' + 1 := ⟨n - 1, by omega⟩
    have q7 : h 73 7 = nI hf := (h4.2.1 _ (by decide)).trans e7
    have q86 : h 86 hf = nI NT := by rw [h4.1 _ (by decide) (by decide) (by decide) (by decide)]; exact e86
    have ea := h4.2.2.2.1 α t hα (by omega)
    have ea1 := ea.1
    have ea2 := ea.2
    have ca := h3 α t hα (by omega) (Or.inr rfl)
    have p := us_many_c _ ca
    obtain ⟨h5, r1, r2⟩ := fm_add (hl := hl) d t (us_many_in _ ca) (h3 ρ t hρ (by omega) (Or.inl rfl)) hρ hT (by omega) h4
    obtain ⟨h', r3, r4⟩ := ih (t + 1) n _ h5 (by omega) (by omega) (fun r x q1 q2 q3 => by
      unfold fm_u fi_u
      by_cases c : r = ρ
      · rw [if_pos c]
        by_cases c2 : x = t
        · rw [if_pos c2]
          exact us_both_in _ (h3 ρ t hρ (by omega) (Or.inl rfl)) _ (us_many_in _ ca)
        · rw [if_neg c2]; exact h3 ρ x hρ q2 (Or.inl rfl)
      · rw [if_neg c]; exact h3 r x q1 q2 q3) r2
    rw [ml_next ha (by omega)] at r4
    refine ⟨h', ?_, r4⟩
    rw [← p.1, ← p.2] at r1
    by_cases c1 : uk_c (RW α t) ≠ 0
    · rw [if_pos c1] at r1
      by_cases c2 : uk_d (RW α t) ≠ 0
      · rw [if_pos c2] at r1
        rw [ht_59_5, ch_59_11]; (try simp +decide (disch := omega) only [ni_bF, nI_clamp, nI_add, pk_mul, dc_ltT, dc_ltF, dc_leT, dc_leF, dc_eqF, dc_neT, dn_eq, dn_ne, dn_lt, dn_ge, si_at, si_c, si_k, ne_eq, not_false_eq_true, not_true_eq_false, ↓reduceIte, v0_ltT, v0_ltF, v0_gtT, v0_gtF, v0_leT, v0_leF, v0_geT, v0_geF, v0_eqT, v0_eqF, v0_add, v0_dda, v0_mul, v0_lum, v0_sub, v0_bad, v0_cl, q7, q86, ea1, ea2]); rw [if_pos c1, ht_59_6, ch_59_13, ht_59_7, ch_59_14]; (try simp +decide (disch := omega) only [ni_bF, nI_clamp, nI_add, pk_mul, dc_ltT, dc_ltF, dc_leT, dc_leF, dc_eqF, dc_neT, dn_eq, dn_ne, dn_lt, dn_ge, si_at, si_c, si_k, ne_eq, not_false_eq_true, not_true_eq_false, ↓reduceIte, v0_ltT, v0_ltF, v0_gtT, v0_gtF, v0_leT, v0_leF, v0_geT, v0_geF, v0_eqT, v0_eqF, v0_add, v0_dda, v0_mul, v0_lum, v0_sub, v0_bad, v0_cl, q7, q86, ea1, ea2]); rw [if_pos c2, ht_59_8, ch_59_15, ht_59_9, ch_59_16, r1, ev_rn, ch_59_17, sk_59_10_98, nI_1, lp_59_98]
        exact r3
      · rw [if_neg c2] at r1
        rw [ht_59_5, ch_59_11]; (try simp +decide (disch := omega) only [ni_bF, nI_clamp, nI_add, pk_mul, dc_ltT, dc_ltF, dc_leT, dc_leF, dc_eqF, dc_neT, dn_eq, dn_ne, dn_lt, dn_ge, si_at, si_c, si_k, ne_eq, not_false_eq_true, not_true_eq_false, ↓reduceIte, v0_ltT, v0_ltF, v0_gtT, v0_gtF, v0_leT, v0_leF, v0_geT, v0_geF, v0_eqT, v0_eqF, v0_add, v0_dda, v0_mul, v0_lum, v0_sub, v0_bad, v0_cl, q7, q86, ea1, ea2]); rw [if_pos c1, ht_59_6, ch_59_13, ht_59_7, ch_59_14]; (try simp +decide (disch := omega) only [ni_bF, nI_clamp, nI_add, pk_mul, dc_ltT, dc_ltF, dc_leT, dc_leF, dc_eqF, dc_neT, dn_eq, dn_ne, dn_lt, dn_ge, si_at, si_c, si_k, ne_eq, not_false_eq_true, not_true_eq_false, ↓reduceIte, v0_ltT, v0_ltF, v0_gtT, v0_gtF, v0_leT, v0_leF, v0_geT, v0_geF, v0_eqT, v0_eqF, v0_add, v0_dda, v0_mul, v0_lum, v0_sub, v0_bad, v0_cl, q7, q86, ea1, ea2]); rw [if_neg c2, sk_59_8_152, ht_59_9, ch_59_16, r1, ev_rn, ch_59_17, sk_59_10_98, nI_1, lp_59_98]
        exact r3
    · rw [if_neg c1] at r1
      by_cases c2 : uk_d (RW α t) ≠ 0
      · rw [if_pos c2] at r1
        rw [ht_59_5, ch_59_11]; (try simp +decide (disch := omega) only [ni_bF, nI_clamp, nI_add, pk_mul, dc_ltT, dc_ltF, dc_leT, dc_leF, dc_eqF, dc_neT, dn_eq, dn_ne, dn_lt, dn_ge, si_at, si_c, si_k, ne_eq, not_false_eq_true, not_true_eq_false, ↓reduceIte, v0_ltT, v0_ltF, v0_gtT, v0_gtF, v0_leT, v0_leF, v0_geT, v0_geF, v0_eqT, v0_eqF, v0_add, v0_dda, v0_mul, v0_lum, v0_sub, v0_bad, v0_cl, q7, q86, ea1, ea2]); rw [if_neg c1, sk_59_6_134, ht_59_7, ch_59_14]; (try simp +decide (disch := omega) only [ni_bF, nI_clamp, nI_add, pk_mul, dc_ltT, dc_ltF, dc_leT, dc_leF, dc_eqF, dc_neT, dn_eq, dn_ne, dn_lt, dn_ge, si_at, si_c, si_k, ne_eq, not_false_eq_true, not_true_eq_false, ↓reduceIte, v0_ltT, v0_ltF, v0_gtT, v0_gtF, v0_leT, v0_leF, v0_geT, v0_geF, v0_eqT, v0_eqF, v0_add, v0_dda, v0_mul, v0_lum, v0_sub, v0_bad, v0_cl, q7, q86, ea1, ea2]); rw [if_pos c2, ht_59_8, ch_59_15, ht_59_9, ch_59_16, r1, ev_rn, ch_59_17, sk_59_10_98, nI_1, lp_59_98]
        exact r3
      · rw [if_neg c2] at r1
        rw [ht_59_5, ch_59_11]; (try simp +decide (disch := omega) only [ni_bF, nI_clamp, nI_add, pk_mul, dc_ltT, dc_ltF, dc_leT, dc_leF, dc_eqF, dc_neT, dn_eq, dn_ne, dn_lt, dn_ge, si_at, si_c, si_k, ne_eq, not_false_eq_true, not_true_eq_false, ↓reduceIte, v0_ltT, v0_ltF, v0_gtT, v0_gtF, v0_leT, v0_leF, v0_geT, v0_geF, v0_eqT, v0_eqF, v0_add, v0_dda, v0_mul, v0_lum, v0_sub, v0_bad, v0_cl, q7, q86, ea1, ea2]); rw [if_neg c1, sk_59_6_134, ht_59_7, ch_59_14]; (try simp +decide (disch := omega) only [ni_bF, nI_clamp, nI_add, pk_mul, dc_ltT, dc_ltF, dc_leT, dc_leF, dc_eqF, dc_neT, dn_eq, dn_ne, dn_lt, dn_ge, si_at, si_c, si_k, ne_eq, not_false_eq_true, not_true_eq_false, ↓reduceIte, v0_ltT, v0_ltF, v0_gtT, v0_gtF, v0_leT, v0_leF, v0_geT, v0_geF, v0_eqT, v0_eqF, v0_add, v0_dda, v0_mul, v0_lum, v0_sub, v0_bad, v0_cl, q7, q86, ea1, ea2]); rw [if_neg c2, sk_59_8_152, ht_59_9, ch_59_16, r1, ev_rn, ch_59_17, sk_59_10_98, nI_1, lp_59_98]
        exact r3
end EM
