/-! the reference foretells what ft says -/
theorem uk_cS (u : Int32) : uk_c u = u >>> (3 &&& 31) := rfl
theorem uk_dS (u : Int32) : uk_d u = u &&& 7 := rfl
theorem uk_8 : ∀ D ∈ us_dm, uk_c (8 + D) = 1 ∧ uk_d (8 + D) = D := by decide +kernel
theorem uk_0 : ∀ u ∈ us_codes, (u >>> (3 &&& 31) = 0 ↔ u = 0) ∧ (u >>> (3 &&& 31) ≤ 0 ↔ u = 0) ∧ ((0 : Int32) < u >>> (3 &&& 31) ↔ u ≠ 0) := by decide +kernel
section EM
variable {h0 : Nat → Nat → Int32} {K M A B C SZ R : Nat → Int32} {hl : Nat → Nat → Int64} {nd z NT NN : Nat}
/-- from the head of foretell's loop -/
def fm_C (h0 : Nat → Nat → Int32) (K M A B C SZ R : Nat → Int32) (hl : Nat → Nat → Int64) (nd z NT NN N : Nat) : Prop := ∀ (f g k s a b : Nat) (G : List Nat) (D : Int32) (ρ T : Nat) (RW : Nat → Nat → Int32) (S : Nat → Int32) (d n : Nat) (x2 x3 : Int32) (h : Nat → Nat → Int32), wf_N K M A B C nd N f g k s a b G → k < NN → (∀ t ∈ G, t < a) → b ≤ NT → D ∈ us_dm → vs_ok (RW ρ) S → (∀ t, a ≤ t → t < b → RW ρ t = 0) → ρ < T → T + 2 * g ≤ 140 → 4 * f + 4 ≤ d → k < n → fm_S h0 h T RW S →
  ∃ h', am_fwd (am_call tb_P d) (am_run (am_call tb_P d) tb_r57_0 n) tb_r57_1 6 [(5, .int D), (4, .int (nI (z + k))), (0, .ref 73), (1, .int (nI (200 * ρ))), (2, .int x2), (3, .int x3)] [] (pr_S, h, hl) = some (none, (pr_S, h', hl)) ∧ fm_S h0 h' T (fm_u RW ρ (ft_v (RW ρ) (ft K M A B C SZ R N k D))) (ft_w S (ft K M A B C SZ R N k D))
variable {N f g k s a b : Nat} {G : List Nat} {D : Int32} {ρ T : Nat} {RW : Nat → Nat → Int32} {S : Nat → Int32} {d n : Nat} {x2 x3 : Int32} {h : Nat → Nat → Int32}
theorem fm_call (IH : fm_C h0 K M A B C SZ R hl nd z NT NN N) (w : wf_N K M A B C nd N f g k s a b G) (hk : k < NN) (hNN : NN ≤ 2900) (hG : ∀ t ∈ G, t < a) (hb : b ≤ NT) (hD : D ∈ us_dm) (hv : vs_ok (RW ρ) S) (hz : ∀ t, a ≤ t → t < b → RW ρ t = 0) (hr : ρ < T) (hT : T + 2 * g ≤ 140) (hd : 4 * f + 5 ≤ d) (hs : fm_S h0 h T RW S) :
    ∃ h', am_call tb_P d 57 [.ref 73, .int (nI (200 * ρ)), .int (nI (z + k)), .int D] (pr_S, h, hl) = some (none, (pr_S, h', hl)) ∧ fm_S h0 h' T (fm_u RW ρ (ft_v (RW ρ) (ft K M A B C SZ R N k D))) (ft_w S (ft K M A B C SZ R N k D)) := by
  obtain ⟨d, rfl⟩ : ∃ d', d = d' + 1 := ⟨d - 1, by omega⟩
  obtain ⟨h', r1, r2⟩ := IH f g k s a b G D ρ T RW S d 999999 (nI (z + k)) D h w hk hG hb hD hv hz hr hT (by omega) (by omega) hs
  refine ⟨h', ?_, r2⟩
  rw [en_57, ht_57_0, ch_57_0]
  exact r1
/-- two effects on one row, one behind the other -/
theorem fm_two {h' : Nat → Nat → Int32} {X Y : Nat → Int32} {G G' : List Nat} (hv : vs_ok (RW ρ) S) (hX : ft_g G X) (hY : ft_g G' Y) (s : fm_S h0 h' T (fm_u (fm_u RW ρ (ft_v (RW ρ) X)) ρ (ft_v (fm_u RW ρ (ft_v (RW ρ) X) ρ) Y)) (ft_w (ft_w S X) Y)) : fm_S h0 h' T (fm_u RW ρ (ft_v (RW ρ) (ft_p X Y))) (ft_w S (ft_p X Y)) := by
  rw [fm_uu, fm_at] at s
  refine fm_cu s (fun t ht => ?_) (fun t ht => ?_)
  · unfold ft_v
    rw [ft_pl ht]
    exact us_both_assoc _ (hv t ht).1 _ ((hX t).1 ht).1 _ ((hY t).1 ht).1
  · unfold ft_w
    rw [ft_ph]
    exact us_max_assoc _ _ _
theorem fm_none (hv : vs_ok (RW ρ) S) (s : fm_S h0 h T RW S) : fm_S h0 h T (fm_u RW ρ (ft_v (RW ρ) ft_z)) (ft_w S ft_z) := by
  refine fm_cg s (fun r t h1 h2 => ?_) (fun t ht => ((us_sn_0 _ (hv t ht).2).1).symm)
  unfold fm_u
  by_cases c : r = ρ
  · rw [if_pos c, c]; exact ((us_both_zero _ (hv t h2).1).2).symm
  · rw [if_neg c]
theorem fm_one {t : Nat} {u : Int32} {h' : Nat → Nat → Int32} (hv : vs_ok (RW ρ) S) (ht : t < 200) (s : fm_S h0 h' T (fm_u RW ρ (fi_u (RW ρ) t (us_both (RW ρ t) u))) S) : fm_S h0 h' T (fm_u RW ρ (ft_v (RW ρ) (ft_1 t u))) (ft_w S (ft_1 t u)) := by
  refine fm_cu s (fun x hx => ?_) (fun x hx => ?_)
  · unfold fi_u ft_v ft_1
    by_cases c : x = t
    · rw [if_pos c, if_pos c, c]
    · rw [if_neg c, if_neg c]; exact ((us_both_zero _ (hv x hx).1).2).symm
  · unfold ft_w ft_1
    rw [if_neg (by omega)]
    exact ((us_sn_0 _ (hv x hx).2).1).symm
/-- argued -/
theorem fm_argued {u : Int32} (IH : fm_C h0 K M A B C SZ R hl nd z NT NN N) (hzb : z ≤ 2900) (hNT : NT ≤ 200) (hp : rp_N K M A B C h0 z k) (w : wf_N K M A B C nd N f g k s a b G) (hk : k < NN) (hNN : NN ≤ 2900) (hG : ∀ t ∈ G, t < a) (hb : b ≤ NT) (hu : u ∈ us_codes) (hv : vs_ok (RW ρ) S) (hz : ∀ t, a ≤ t → t < b → RW ρ t = 0) (hr : ρ < T) (hT : T + 2 * g ≤ 140) (hd : 4 * f + 6 ≤ d) (hs : fm_S h0 h T RW S) :
    ∃ h', am_call tb_P d 56 [.ref 73, .int (nI (200 * ρ)), .int (nI (z + k)), .int u] (pr_S, h, hl) = some (none, (pr_S, h', hl)) ∧ fm_S h0 h' T (fm_u RW ρ (ft_v (RW ρ) (ft_a K M (ft K M A B C SZ R N) k u))) (ft_w S (ft_a K M (ft K M A B C SZ R N) k u)) := by
  obtain ⟨d, rfl⟩ : ∃ d', d = d' + 1 := ⟨d - 1, by omega⟩
  have o := wf_ord w
  unfold ft_a
  by_cases c : u = 0
  · rw [if_pos c]
    refine ⟨h, ?_, fm_none hv hs⟩
    rw [en_56, ht_56_0, ch_56_0, if_neg (fun x => x ((uk_0 u hu).1.mpr c))]
  rw [if_neg c]
  have c' : u >>> (3 &&& 31) ≠ 0 := fun x => c ((uk_0 u hu).1.mp x)
  by_cases c2 : K k = 1
  · obtain ⟨t, e1, e2⟩ := wf_thing w c2
    have := hG t e2
    rw [if_pos c2, e1, nn_n (by omega)]
    obtain ⟨d, rfl⟩ : ∃ d', d = d' + 1 := ⟨d - 1, by omega⟩
    obtain ⟨h', r1, r2⟩ := fm_add (hl := hl) d t hu (hv t (by omega)).1 hr (by omega) (by omega) hs
    rw [uk_cS, uk_dS] at r1
    refine ⟨h', ?_, fm_one hv (by omega) r2⟩
    have p1 : h 79 (z + k) = 23 := by rw [hs.1 _ (by decide) (by decide) (by decide) (by decide)]; exact (hp.2.1 c2).1
    have p2 : h 80 (z + k) = nI t := by rw [hs.1 _ (by decide) (by decide) (by decide) (by decide), (hp.2.1 c2).2]; exact e1
    rw [en_56, ht_56_0, ch_56_0]; (try simp +decide (disch := omega) only [ni_bF, nI_clamp, nI_add, pk_mul, dc_ltT, dc_ltF, dc_leT, dc_leF, dc_eqF, dc_neT, dn_eq, dn_ne, dn_lt, dn_ge, si_at, si_c, si_k, ne_eq, not_false_eq_true, not_true_eq_false, ↓reduceIte, v0_ltT, v0_ltF, v0_gtT, v0_gtF, v0_leT, v0_leF, v0_geT, v0_geF, v0_eqT, v0_eqF, v0_add, v0_dda, v0_mul, v0_lum, v0_sub, v0_bad, v0_cl, p1, p2]); rw [if_pos c', ht_56_1, ch_56_1]; (try simp +decide (disch := omega) only [ni_bF, nI_clamp, nI_add, pk_mul, dc_ltT, dc_ltF, dc_leT, dc_leF, dc_eqF, dc_neT, dn_eq, dn_ne, dn_lt, dn_ge, si_at, si_c, si_k, ne_eq, not_false_eq_true, not_true_eq_false, ↓reduceIte, v23_ltT, v23_ltF, v23_gtT, v23_gtF, v23_leT, v23_leF, v23_geT, v23_geF, v23_eqT, v23_eqF, v23_add, v23_dda, v23_mul, v23_lum, v23_sub, v23_bad, v23_cl, p1, p2]); rw [r1, ev_rn, ch_56_3, sk_56_2_54, ht_56_3, ch_56_5]
  · rw [if_neg c2]
    have p1 : h 79 (z + k) ≠ 23 := by
      rw [hs.1 _ (by decide) (by decide) (by decide) (by decide)]
      cases N with
      | zero => exact w.elim
      | succ N =>
        rcases w with ⟨x, _⟩ | ⟨x, _⟩ | ⟨x, _⟩ | ⟨x, _⟩ | ⟨x, _⟩ | ⟨x, _⟩ | ⟨x, _⟩ | ⟨x, _⟩ | ⟨x, y, _⟩ | ⟨x, _⟩
        · rw [(hp.1 x).1]; decide
        · exact absurd x c2
        · rw [(hp.2.2.1 x).1]; decide
        · rw [(hp.2.2.2.1 x).1]; decide
        · rw [(hp.2.2.2.2.1 x).1]; decide
        · rw [(hp.2.2.2.2.2.1 x).1]; decide
        · rw [(hp.2.2.2.2.2.2.1 x).1]; decide
        · rw [(hp.2.2.2.2.2.2.2.1 x).1]; decide
        · rw [(hp.2.2.2.2.2.2.2.2.1 x).1]
          rcases y with y | y | y | y <;> rw [y] <;> decide
        · rw [(hp.2.2.2.2.2.2.2.2.2 x).1]; decide
    obtain ⟨h', r1, r2⟩ := fm_call IH w hk hNN hG hb (us_dm_7 _ hu) hv hz hr hT (show 4 * f + 5 ≤ d by omega) hs
    refine ⟨h', ?_, r2⟩
    rw [en_56, ht_56_0, ch_56_0]; (try simp +decide (disch := omega) only [ni_bF, nI_clamp, nI_add, pk_mul, dc_ltT, dc_ltF, dc_leT, dc_leF, dc_eqF, dc_neT, dn_eq, dn_ne, dn_lt, dn_ge, si_at, si_c, si_k, ne_eq, not_false_eq_true, not_true_eq_false, ↓reduceIte, v0_ltT, v0_ltF, v0_gtT, v0_gtF, v0_leT, v0_leF, v0_geT, v0_geF, v0_eqT, v0_eqF, v0_add, v0_dda, v0_mul, v0_lum, v0_sub, v0_bad, v0_cl]); rw [if_pos c', ht_56_1, ch_56_1]; (try simp +decide (disch := omega) only [ni_bF, nI_clamp, nI_add, pk_mul, dc_ltT, dc_ltF, dc_leT, dc_leF, dc_eqF, dc_neT, dn_eq, dn_ne, dn_lt, dn_ge, si_at, si_c, si_k, ne_eq, not_false_eq_true, not_true_eq_false, ↓reduceIte, v23_ltT, v23_ltF, v23_gtT, v23_gtF, v23_leT, v23_leF, v23_geT, v23_geF, v23_eqT, v23_eqF, v23_add, v23_dda, v23_mul, v23_lum, v23_sub, v23_bad, v23_cl]); rw [if_pos p1, ht_56_2, ch_56_2, r1, ev_rn, ch_56_4, ht_56_3, ch_56_5]
end EM
