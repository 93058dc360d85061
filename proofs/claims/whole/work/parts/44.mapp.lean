/-! the reference: foretellApply -/
section WF
variable {K M A B C SZ R : Nat → Int32} {nd z : Nat}
theorem rp_iff {n f g k s a b : Nat} {G : List Nat} {h : Nat → Nat → Int32} (w : wf_N K M A B C nd n f g k s a b G) (hp : rp_N K M A B C h z k) : (h 79 (z + k) = 22 ↔ K k = 9) ∧ (h 79 (z + k) = 20 ↔ K k = 4) ∧ (h 79 (z + k) = 24 ↔ K k = 2) := by
  cases n with
  | zero => exact w.elim
  | succ N =>
    rcases w with ⟨x, _⟩ | ⟨x, _⟩ | ⟨x, _⟩ | ⟨x, _⟩ | ⟨x, _⟩ | ⟨x, _⟩ | ⟨x, _⟩ | ⟨x, _⟩ | ⟨x, y, _⟩ | ⟨x, _⟩
    · rw [(hp.1 x).1, x]; decide
    · rw [(hp.2.1 x).1, x]; decide
    · rw [(hp.2.2.1 x).1, x]; decide
    · rw [(hp.2.2.2.1 x).1, x]; decide
    · rw [(hp.2.2.2.2.1 x).1, x]; decide
    · rw [(hp.2.2.2.2.2.1 x).1, x]; decide
    · rw [(hp.2.2.2.2.2.2.1 x).1, x]; decide
    · rw [(hp.2.2.2.2.2.2.2.1 x).1, x]; decide
    · rw [(hp.2.2.2.2.2.2.2.2.1 x).1, x]
      rcases y with y | y | y | y <;> rw [y] <;> decide
    · rw [(hp.2.2.2.2.2.2.2.2.2 x).1, x]; decide
theorem ft_s0 {F : Nat → Int32 → Nat → Int32} {u : Nat → Int32} (hu : ∀ i, u i = 0) : ∀ m k, ft_s K M A B F u m k = ft_z
  | 0, _ => rfl
  | m + 1, k => by
    unfold ft_s
    rw [ft_s0 hu m, hu m]
    exact (ft_pz (ft_gz [])).1
end WF
section EM
variable {h0 : Nat → Nat → Int32} {K M A B C SZ R : Nat → Int32} {hl : Nat → Nat → Int64} {nd z NT hf NN : Nat}
variable {N g a : Nat} {G : List Nat} {D : Int32} {ρ T : Nat} {h : Nat → Nat → Int32}
theorem ma_spine (C0 : am_C) (hd q : Nat) (x1 x2 x3 : Int32) (hNN : NN ≤ 2900) (hzb : z ≤ 2900) (hrp : ∀ k, k < NN → rp_N K M A B C h z k) (ho : ∀ k, k < NN → K k ≠ 9 → (∃ n f g s a b G, wf_N K M A B C nd n f g k s a b G) → h 79 (z + k) ≠ 22) : ∀ (m n f g k s a b c N2 : Nat) (G : List Nat), ap_h K A m k q hd → wf_N K M A B C nd N2 f g k s a b G → k < NN → c + m < 3000 → m ≤ n →
    ∃ n', n ≤ n' + m ∧ am_fwd C0 (am_run C0 tb_r60_0 n) tb_r60_1 6 [(5, .int (nI (z + k))), (4, .int (nI c)), (0, .ref 73), (1, .int x1), (2, .int x2), (3, .int x3)] [] (pr_S, h, hl) = am_fwd C0 (am_run C0 tb_r60_0 n') tb_r60_2 33 [(5, .int (nI (z + hd))), (4, .int (nI (c + m))), (0, .ref 73), (1, .int x1), (2, .int x2), (3, .int x3)] [] (pr_S, h, hl) := by
  intro m
  induction m with
  | zero =>
    intro n f g k s a b c N2 G r w hk hc hn
    obtain ⟨e1, e2, e3⟩ := r
    subst e1
    have g1 := ho k hk e2 ⟨_, _, _, _, _, _, _, w⟩
    refine ⟨n, by omega, ?_⟩
    rw [ht_60_1, ch_60_1]; try simp +decide (disch := omega) only [ni_bF, nI_clamp, nI_add, pk_mul, dc_ltT, dc_ltF, dc_leT, dc_leF, dc_eqF, dc_neT, dn_eq, dn_ne, dn_lt, dn_ge, si_at, si_c, si_k, ne_eq, not_false_eq_true, not_true_eq_false, ↓reduceIte, v1_ltT, v1_ltF, v1_gtT, v1_gtF, v1_leT, v1_leF, v1_geT, v1_geF, v1_eqT, v1_eqF, v1_add, v1_dda, v1_mul, v1_lum, v1_sub, v1_bad, v1_cl, v22_ltT, v22_ltF, v22_gtT, v22_gtF, v22_leT, v22_leF, v22_geT, v22_geF, v22_eqT, v22_eqF, v22_add, v22_dda, v22_mul, v22_lum, v22_sub, v22_bad, v22_cl, g1]
    rfl
  | succ m ih =>
    intro n f g k s a b c N2 G r w hk hc hn
    obtain ⟨h1, h2, j, h3, h4, h5, h6⟩ := r
    obtain ⟨n, rfl⟩ : ∃ n', n = n' + 1 := ⟨n - 1, by omega⟩
    cases N2 with
    | zero => exact w.elim
    | succ N2 =>
    obtain ⟨f1, f', i, j2, c2, q1, q2, q3, q4, w1, w2, w3⟩ := wf_9 w h1
    have o2 := wf_ord w2
    have o3 := wf_ord w3
    have e : i = j := (nI_eq (by omega) (by omega)).mp (q3.symm.trans h4)
    subst e
    obtain ⟨g1, g2, g3⟩ := (hrp k hk).2.2.2.2.2.2.2.2.2 h1
    rw [q3, nI_add] at g2
    obtain ⟨n', r0, r⟩ := ih n f1 g i s a c2 (c + 1) N2 G h6 w2 (by omega) (by omega) (by omega)
    refine ⟨n', by omega, ?_⟩
    rw [ht_60_1, ch_60_1]; (try simp +decide (disch := omega) only [ni_bF, nI_clamp, nI_add, pk_mul, dc_ltT, dc_ltF, dc_leT, dc_leF, dc_eqF, dc_neT, dn_eq, dn_ne, dn_lt, dn_ge, si_at, si_c, si_k, ne_eq, not_false_eq_true, not_true_eq_false, ↓reduceIte, v1_ltT, v1_ltF, v1_gtT, v1_gtF, v1_leT, v1_leF, v1_geT, v1_geF, v1_eqT, v1_eqF, v1_add, v1_dda, v1_mul, v1_lum, v1_sub, v1_bad, v1_cl, v22_ltT, v22_ltF, v22_gtT, v22_gtF, v22_leT, v22_leF, v22_geT, v22_geF, v22_eqT, v22_eqF, v22_add, v22_dda, v22_mul, v22_lum, v22_sub, v22_bad, v22_cl, g1, g2]); rw [sk_60_2_6, lp_60_6]
    rw [r, Nat.add_assoc c 1 m, Nat.add_comm 1 m]
theorem ma_loop {hd mt : Nat} {x : Int32} (d : Nat) (x2 : Int32) (hR : ∀ i, R i ∈ us_codes) (IH : fm_C h0 K M A B C SZ R hl nd z NT NN N) (hzb : z = 2900 * hf) (hf2 : hf < 2) (hNT : NT ≤ 200) (e7 : h0 73 7 = nI hf) (hRm : ∀ i, i < 192 → h0 97 i = uk_c (R i) ∧ h0 98 i = uk_d (R i)) (hnd : nd ≤ 24) (hP : ∀ e, e < nd → ∃ w, SZ e = nI w ∧ w ≤ 4 ∧ h0 90 (24 * hf + e) = nI w) (hrp : ∀ k, k < NN → rp_N K M A B C h0 z k) (hh : hd < NN) (hNN : NN ≤ 2900) (h2 : K hd = 2 → ∃ e, M hd = nI e ∧ e < nd) (ho : h0 79 (z + hd) = 20 ↔ K hd = 4) (ho2 : h0 79 (z + hd) = 24 ↔ K hd = 2) (ho3 : h0 79 (z + hd) = 22 ↔ K hd = 9) (hx : x ∈ us_codes) (hmt : mt < 3000) (hG : ∀ t ∈ G, t < a) (hr : ρ < T) (hT : T + 2 * g ≤ 140) : ∀ (m n f k s b q : Nat) (RW : Nat → Nat → Int32) (S : Nat → Int32) (h : Nat → Nat → Int32), m ≤ mt → ap_h K A m k q hd → wf_N K M A B C nd (N + 1) f g k s a b G → k < NN → b ≤ NT → vs_ok (RW ρ) S → (∀ t, a ≤ t → t < b → RW ρ t = 0) → 4 * f + 2 ≤ d → m ≤ n → fm_S h0 h T RW S →
    ∃ h', am_fwd (am_call tb_P d) (am_run (am_call tb_P d) tb_r60_0 n) tb_r60_10 161 [(8, .int (nI (z + k))), (7, .int (nI m)), (6, .int x), (5, .int (nI (z + hd))), (4, .int (nI mt)), (0, .ref 73), (1, .int (nI (200 * ρ))), (2, .int x2), (3, .int D)] [] (pr_S, h, hl) = some (none, (pr_S, h', hl)) ∧ fm_S h0 h' T (fm_u RW ρ (ft_v (RW ρ) (ft_s K M A B (ft K M A B C SZ R N) (mu_u K M SZ R hd mt D x) m k))) (ft_w S (ft_s K M A B (ft K M A B C SZ R N) (mu_u K M SZ R hd mt D x) m k)) := by
  intro m
  have hu : ∀ i, mu_u K M SZ R hd mt D x i ∈ us_codes := by
    intro i
    unfold mu_u ap_u
    repeat' split
    all_goals first | exact hx | exact us_c20 | exact us_c0 | exact hR _
  induction m with
  | zero =>
    intro n f k s b q RW S h hm r w hk hb hv hz hd1 hn hs
    obtain ⟨e1, e2, e3⟩ := r
    subst e1
    have g1 : h 79 (z + k) ≠ 22 := by rw [fm_rd hs (by decide)]; exact fun e => e2 (ho3.mp e)
    refine ⟨h, ?_, fm_none hv hs⟩
    rw [ht_60_10, ch_60_10]; (try simp +decide (disch := omega) only [ni_bF, nI_clamp, nI_add, pk_mul, dc_ltT, dc_ltF, dc_leT, dc_leF, dc_eqF, dc_neT, dn_eq, dn_ne, dn_lt, dn_ge, si_at, si_c, si_k, ne_eq, not_false_eq_true, not_true_eq_false, ↓reduceIte, v22_ltT, v22_ltF, v22_gtT, v22_gtF, v22_leT, v22_leF, v22_geT, v22_geF, v22_eqT, v22_eqF, v22_add, v22_dda, v22_mul, v22_lum, v22_sub, v22_bad, v22_cl, g1]); rw [ht_60_11, ch_60_14]
  | succ m ih =>
    intro n f k s b q RW S h hm r w hk hb hv hz hd1 hn hs
    obtain ⟨h1, h2', j, h3, h4, h5, h6⟩ := r
    obtain ⟨n, rfl⟩ : ∃ n', n = n' + 1 := ⟨n - 1, by omega⟩
    obtain ⟨f1, f', i, j2, c, q1, q2, q3, q4, w1, w2, w3⟩ := wf_9 w h1
    have o2 := wf_ord w2
    have o3 := wf_ord w3
    have e : i = j := (nI_eq (by omega) (by omega)).mp (q3.symm.trans h4)
    subst e
    obtain ⟨g1, g2, g3⟩ := (hrp k hk).2.2.2.2.2.2.2.2.2 h1
    rw [q3, nI_add] at g2
    rw [q4, nI_add] at g3
    have g1' := (fm_rd hs (c := 79) (by decide) (z + k)).trans g1
    have g3' := (fm_rd hs (c := 81) (by decide) (z + k)).trans g3
    have hG2 : ∀ t ∈ G, t < c := fun t ht => by have := hG t ht; omega
    have IHg := ft_good (SZ := SZ) hR N (K := K) (M := M) (A := A) (B := B) (C := C) (nd := nd)
    have X2 := ft_ga (ft K M A B C SZ R N) hG2 (by omega) w3 (fun D hD => IHg _ _ _ _ _ _ _ D w3 (by omega) hG2 (by omega) hD) (hu m)
    have X1 := ft_gsq IHg hu (Nat.le_refl m) (wf_up w2) (by omega) hG (by omega) h6
    obtain ⟨d, rfl⟩ : ∃ d', d = d' + 1 := ⟨d - 1, by omega⟩
    have ru := em_useOf (d := d) (hl := hl) (h := h) (hd := hd) (m := mt) (i := m) (x := x) (D := D) hzb hf2 ((hs.2.1 _ (by decide)).trans e7) hR (fun i hi => by rw [fm_rd hs (by decide), fm_rd hs (by decide)]; exact hRm i hi) hnd (fun e he => by obtain ⟨w, y1, y2, y3⟩ := hP e he; exact ⟨w, y1, y2, by rw [fm_rd hs (by decide)]; exact y3⟩) (by
        have := hrp hd hh
        unfold rp_N at this ⊢
        simp only [fm_rd hs (c := 79) (by decide), fm_rd hs (c := 80) (by decide), fm_rd hs (c := 81) (by decide), fm_rd hs (c := 82) (by decide), fm_rd hs (c := 83) (by decide)]
        exact this) hh hNN h2 (by rw [fm_rd hs (by decide)]; exact ho) (by rw [fm_rd hs (by decide)]; exact ho2) (by omega) hmt
    obtain ⟨h7, r1, s1⟩ := fm_argued (d := d + 1) IH (by omega) hNT (hrp j2 (by omega)) w3 (by omega) hNN hG2 (by omega) (hu m) hv (fun t h3 h4 => hz t (by omega) h4) hr hT (by omega) hs
    have v1 := vs_next hv X2
    obtain ⟨h8, r2, s2⟩ := ih n f1 i s c q _ _ h7 (by omega) h6 (wf_up w2) (by omega) (by omega) (by rw [fm_at]; exact v1) (fun t h3 h4 => by rw [fm_at]; exact ft_vz (hz t h3 (by omega)) X2 (by omega) (fun e => by have := hG t e; omega)) (by have := q1.1; omega) (by omega) s1
    refine ⟨h8, ?_, ?_⟩
    · have g2' := (fm_rd s1 (c := 80) (by decide) (z + k)).trans g2
      rw [ht_60_10, ch_60_10]; (try simp +decide (disch := omega) only [ni_bF, nI_clamp, nI_add, pk_mul, dc_ltT, dc_ltF, dc_leT, dc_leF, dc_eqF, dc_neT, dn_eq, dn_ne, dn_lt, dn_ge, si_at, si_c, si_k, ne_eq, not_false_eq_true, not_true_eq_false, ↓reduceIte, v22_ltT, v22_ltF, v22_gtT, v22_gtF, v22_leT, v22_leF, v22_geT, v22_geF, v22_eqT, v22_eqF, v22_add, v22_dda, v22_mul, v22_lum, v22_sub, v22_bad, v22_cl, g1', g3', g2']); rw [ru, ev_rs, ch_60_15, r1, ev_rn, ch_60_17]; (try simp +decide (disch := omega) only [ni_bF, nI_clamp, nI_add, pk_mul, dc_ltT, dc_ltF, dc_leT, dc_leF, dc_eqF, dc_neT, dn_eq, dn_ne, dn_lt, dn_ge, si_at, si_c, si_k, ne_eq, not_false_eq_true, not_true_eq_false, ↓reduceIte, g1', g3', g2']); rw [sk_60_11_161, pk_m1, lp_60_161]
      exact r2
    · have e1 : ft_s K M A B (ft K M A B C SZ R N) (mu_u K M SZ R hd mt D x) (m + 1) k = ft_p (ft_a K M (ft K M A B C SZ R N) j2 (mu_u K M SZ R hd mt D x m)) (ft_s K M A B (ft K M A B C SZ R N) (mu_u K M SZ R hd mt D x) m i) := by
        rw [show ft_s K M A B (ft K M A B C SZ R N) (mu_u K M SZ R hd mt D x) (m + 1) k = ft_p (ft_s K M A B (ft K M A B C SZ R N) (mu_u K M SZ R hd mt D x) m (nn (A k))) (ft_a K M (ft K M A B C SZ R N) (nn (B k)) (mu_u K M SZ R hd mt D x m)) from rfl, q3, q4, nn_n (by omega), nn_n (by omega)]
        exact ft_pc X1 X2
      rw [e1]
      exact fm_two hv X2 X1 s2
end EM
