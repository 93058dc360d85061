/-! both parsers side by side: the parameters -/
theorem fs_none {T : Nat → Int64} {v : Int64} : ∀ {w : Nat}, fs T v w = none → ∀ i, i < w → T i ≠ v
  | 0, _, i, hi => absurd hi (by omega)
  | w + 1, h, i, hi => by
    unfold fs at h
    split at h
    · cases h
    · next c =>
      by_cases e : i = w
      · subst e; exact c
      · exact fs_none h i (by omega)
section PE
variable {H0 H1 hC hM hC' hM' : Nat → Nat → Int32} {G0 G1 gC gM gC' gM' : Nat → Nat → Int64} {B : Nat → Nat} {N M rd k o n t w π D e s L : Nat} {G : List Nat}
/-- rows of DEFS alone have changed -/
theorem po_ext (P : po hC gC hM gM B N M rd k o n t w G) (a : ∀ c, c ≠ 3 → (c < 5 ∨ 8 < c) → hC' c = hC c) (a1 : hC' 3 1 = hC 3 1) (a2 : hC' 3 2 = hC 3 2) (b : ∀ c, c ≠ 4 → gC' c = gC c) (f : ∀ c, (c < 85 ∨ 90 < c ∨ c = 86) → hM' c = hM c) (g : ∀ c, c ≠ 91 → gM' c = gM c) : po hC' gC' hM' gM' B N M rd k o n t w G := by
  unfold po nr rp_N at_C at P ⊢
  rw [a1, a2, a 1 (by decide) (by decide), a 32 (by decide) (by decide), a 34 (by decide) (by decide), a 9 (by decide) (by decide), a 10 (by decide) (by decide), a 11 (by decide) (by decide), a 12 (by decide) (by decide), a 13 (by decide) (by decide), a 14 (by decide) (by decide), a 15 (by decide) (by decide), a 16 (by decide) (by decide), b 1 (by decide), b 33 (by decide), f 73 (by decide), f 96 (by decide), f 86 (by decide), f 92 (by decide), f 93 (by decide), f 94 (by decide), f 79 (by decide), f 80 (by decide), f 81 (by decide), f 82 (by decide), f 83 (by decide), f 84 (by decide), g 95 (by decide)]
  exact P
theorem pb_ext (P : pb hC hM B N M k n w) (a : ∀ c, c ≠ 3 → (c < 5 ∨ 8 < c) → hC' c = hC c) (f : ∀ c, (c < 85 ∨ 90 < c ∨ c = 86) → hM' c = hM c) : pb hC' hM' B N M k n w := by
  unfold pb at P ⊢
  rw [a 1 (by decide) (by decide), a 32 (by decide) (by decide), f 73 (by decide)]
  exact P
theorem fx_ext (F : fx H0 G0 H1 G1 N rd hC gC hM gM) (a : ∀ c, c ≠ 3 → (c < 5 ∨ 8 < c) → hC' c = hC c) (b : ∀ c, c ≠ 4 → gC' c = gC c) (f : ∀ c, (c < 85 ∨ 90 < c ∨ c = 86) → hM' c = hM c) (f2 : ∀ i, i ≠ rd → hM' 85 i = hM 85 i) (f3 : ∀ c i, 86 < c → c ≤ 90 → (i < 24 * rd ∨ 24 * rd + 24 ≤ i) → hM' c i = hM c i) (g : ∀ c, c ≠ 91 → gM' c = gM c) : fx H0 G0 H1 G1 N rd hC' gC' hM' gM' := by
  obtain ⟨e1, e2, e3, e4, e5, e6, e7, e8, e9, e10⟩ := F
  refine ⟨fun c q1 q2 q3 q4 q5 => ?_, ?_, fun c q1 q2 q3 => ?_, fun c q1 q2 q3 q4 q5 => ?_, fun x a1 a2 a3 a4 a5 a6 a7 => ?_, fun c q1 q2 => ?_, fun c i q1 q2 q3 => ?_, fun c i q1 q2 => ?_, fun c i q1 q2 q3 => ?_, fun c i q1 q2 q3 => ?_⟩
  · rw [a c q2 (by omega)]; exact e1 c q1 q2 q3 q4 q5
  · rw [a 1 (by decide) (by decide)]; exact e2
  · rw [b c q3]; exact e3 c q1 q2 q3
  · rw [f c (by omega)]; exact e4 c q1 q2 q3 q4 q5
  · rw [f 73 (by decide)]; exact e5 x a1 a2 a3 a4 a5 a6 a7
  · rw [g c q2]; exact e6 c q1 q2
  · rw [f c (by omega)]; exact e7 c i q1 q2 q3
  · rw [show hM' c i = hM c i by
      rcases q1 with e | e
      · rw [e]; exact f2 i q2
      · rw [f c (by omega)]]
    exact e8 c i q1 q2
  · rw [f3 c i q1 q2 q3]; exact e9 c i q1 q2 q3
  · rw [f c (by omega)]; exact e10 c i q1 q2 q3
def pw (n L D rd : Nat) (hC : Nat → Nat → Int32) (gC : Nat → Nat → Int64) (hM : Nat → Nat → Int32) (gM : Nat → Nat → Int64) (hC' : Nat → Nat → Int32) (gC' : Nat → Nat → Int64) (hM' : Nat → Nat → Int32) (gM' : Nat → Nat → Int64) : Prop :=
  (∀ c, c ≠ 1 → c ≠ 3 → (c < 9 ∨ 16 < c) → c ≠ 32 → c ≠ 34 → hC' c = hC c) ∧ (∀ c i, 9 ≤ c → c ≤ 11 → i < L → hC' c i = hC c i) ∧ (∀ c i, 12 ≤ c → c ≤ 16 → i < n → hC' c i = hC c i) ∧ hC' 3 0 = hC 3 0 ∧ (∀ c, c ≠ 1 → c ≠ 33 → gC' c = gC c)
  ∧ (∀ c, 85 ≤ c → c < 90 → c ≠ 86 → hM' c = hM c) ∧ (∀ i, i ≠ 24 * rd + D → hM' 90 i = hM 90 i) ∧ gM' 91 = gM 91
theorem pw_r : pw n L D rd hC gC hM gM hC gC hM gM := ⟨fun _ _ _ _ _ _ => rfl, fun _ _ _ _ _ => rfl, fun _ _ _ _ _ => rfl, rfl, fun _ _ _ => rfl, fun _ _ _ _ => rfl, fun _ _ => rfl, rfl⟩
theorem pw_t {h2 h3 : Nat → Nat → Int32} {g2 g3 : Nat → Nat → Int64} (x : pw n L D rd hC gC hM gM hC' gC' hM' gM') (y : pw n L D rd hC' gC' hM' gM' h2 g2 h3 g3) : pw n L D rd hC gC hM gM h2 g2 h3 g3 := by
  obtain ⟨x1, x2, x8, x3, x4, x5, x6, x7⟩ := x
  obtain ⟨y1, y2, y8, y3, y4, y5, y6, y7⟩ := y
  exact ⟨fun c q1 q2 q3 q4 q5 => by rw [y1 c q1 q2 q3 q4 q5]; exact x1 c q1 q2 q3 q4 q5, fun c i q1 q2 q3 => by rw [y2 c i q1 q2 q3]; exact x2 c i q1 q2 q3, fun c i q1 q2 q3 => by rw [y8 c i q1 q2 q3]; exact x8 c i q1 q2 q3, y3.trans x3, fun c q1 q2 => by rw [y4 c q1 q2]; exact x4 c q1 q2, fun c q1 q2 q3 => by rw [y5 c q1 q2 q3]; exact x5 c q1 q2 q3, fun i q => by rw [y6 i q]; exact x6 i q, y7.trans x7⟩
/-- the reference looks the parameters through, where it has failed: nothing more -/
theorem kn_B (d : Nat) {x1 : Int32} (h6 : hM 73 6 = nI k) (hk : k < 2001) (h32 : hM 73 32 = nI w) (hw : w ≤ 84) (nz : hM 73 26 ≠ 0) (R : Option Value × am_G) : ∀ (m q n : Nat), q + m = w → m ≤ n → (∀ x2 : Int32, am_fwd (am_call tb_P (d + 1)) (am_run (am_call tb_P (d + 1)) tb_r45_0 (n - m)) tb_r45_7 189 [(2, .int x2), (1, .int x1), (0, .ref 73)] [] (pr_S, hM, gM) = some R) → am_fwd (am_call tb_P (d + 1)) (am_run (am_call tb_P (d + 1)) tb_r45_0 n) tb_r45_5 151 [(2, .int (nI q)), (1, .int x1), (0, .ref 73)] [] (pr_S, hM, gM) = some R := by
  intro m
  induction m with
  | zero =>
    intro q n e1 e2 hR
    obtain rfl : q = w := by omega
    rw [ht_45_5, ch_45_12]; (try simp +decide (disch := omega) only [ni_bF, nI_clamp, nI_add, pk_mul, dc_ltT, dc_ltF, dc_leT, dc_leF, dc_eqF, dc_neT, dn_eq, dn_ne, dn_lt, dn_ge, si_at, si_c, si_k, q_at_nI, q_put_nI, ne_eq, not_false_eq_true, not_true_eq_false, ↓reduceIte, v0_ltT, v0_ltF, v0_gtT, v0_gtF, v0_leT, v0_leF, v0_geT, v0_geF, v0_eqT, v0_eqF, v0_add, v0_dda, v0_mul, v0_lum, v0_sub, v0_bad, v0_cl, h32]); rw [sk_45_6_189]
    exact hR _
  | succ m ih =>
    intro q n e1 e2 hR
    obtain ⟨n, rfl⟩ : ∃ n', n = n' + 1 := ⟨n - 1, by omega⟩
    have p := ih (q + 1) n (by omega) (by omega) (fun x2 => by rw [show n - m = n + 1 - (m + 1) by omega]; exact hR x2)
    by_cases c : gM 95 q = gM 78 k
    · rw [ht_45_5, ch_45_12]; (try simp +decide (disch := omega) only [ni_bF, nI_clamp, nI_add, pk_mul, dc_ltT, dc_ltF, dc_leT, dc_leF, dc_eqF, dc_neT, dn_eq, dn_ne, dn_lt, dn_ge, si_at, si_c, si_k, q_at_nI, q_put_nI, ne_eq, not_false_eq_true, not_true_eq_false, ↓reduceIte, v0_ltT, v0_ltF, v0_gtT, v0_gtF, v0_leT, v0_leF, v0_geT, v0_geF, v0_eqT, v0_eqF, v0_add, v0_dda, v0_mul, v0_lum, v0_sub, v0_bad, v0_cl, h32, h6]); rw [if_neg (fun z => (lg_ne.mp z) c), em_pfailB _ nz, ev_rn, ch_45_16, ht_45_6, ch_45_15]; (try simp +decide (disch := omega) only [ni_bF, nI_clamp, nI_add, pk_mul, dc_ltT, dc_ltF, dc_leT, dc_leF, dc_eqF, dc_neT, dn_eq, dn_ne, dn_lt, dn_ge, si_at, si_c, si_k, q_at_nI, q_put_nI, ne_eq, not_false_eq_true, not_true_eq_false, ↓reduceIte, v0_ltT, v0_ltF, v0_gtT, v0_gtF, v0_leT, v0_leF, v0_geT, v0_geF, v0_eqT, v0_eqF, v0_add, v0_dda, v0_mul, v0_lum, v0_sub, v0_bad, v0_cl, v1_ltT, v1_ltF, v1_gtT, v1_gtF, v1_leT, v1_leF, v1_geT, v1_geF, v1_eqT, v1_eqF, v1_add, v1_dda, v1_mul, v1_lum, v1_sub, v1_bad, v1_cl, h32, h6]); rw [sk_45_7_151, lp_45_151]
      exact p
    · rw [ht_45_5, ch_45_12]; (try simp +decide (disch := omega) only [ni_bF, nI_clamp, nI_add, pk_mul, dc_ltT, dc_ltF, dc_leT, dc_leF, dc_eqF, dc_neT, dn_eq, dn_ne, dn_lt, dn_ge, si_at, si_c, si_k, q_at_nI, q_put_nI, ne_eq, not_false_eq_true, not_true_eq_false, ↓reduceIte, v0_ltT, v0_ltF, v0_gtT, v0_gtF, v0_leT, v0_leF, v0_geT, v0_geF, v0_eqT, v0_eqF, v0_add, v0_dda, v0_mul, v0_lum, v0_sub, v0_bad, v0_cl, h32, h6]); rw [if_pos (lg_ne.mpr c), ht_45_6, ch_45_15]; (try simp +decide (disch := omega) only [ni_bF, nI_clamp, nI_add, pk_mul, dc_ltT, dc_ltF, dc_leT, dc_leF, dc_eqF, dc_neT, dn_eq, dn_ne, dn_lt, dn_ge, si_at, si_c, si_k, q_at_nI, q_put_nI, ne_eq, not_false_eq_true, not_true_eq_false, ↓reduceIte, v0_ltT, v0_ltF, v0_gtT, v0_gtF, v0_leT, v0_leF, v0_geT, v0_geF, v0_eqT, v0_eqF, v0_add, v0_dda, v0_mul, v0_lum, v0_sub, v0_bad, v0_cl, v1_ltT, v1_ltF, v1_gtT, v1_gtF, v1_leT, v1_leF, v1_geT, v1_geF, v1_eqT, v1_eqF, v1_add, v1_dda, v1_mul, v1_lum, v1_sub, v1_bad, v1_cl, h32, h6]); rw [sk_45_7_151, lp_45_151]
      exact p
theorem kn_loop (d : Nat) {x1 : Int32} (h6 : hM 73 6 = nI k) (hk : k < 2001) (h32 : hM 73 32 = nI w) (hw : w ≤ 84) (z : hM 73 26 = 0) (R : Option Value × am_G) : ∀ (m q n : Nat), q + m = w → m ≤ n → ((∃ i, q ≤ i ∧ i < w ∧ gM 95 i = gM 78 k) ∧ hM' = xfm2 hM 4 (hM 76 k) ∨ (∀ i, q ≤ i → i < w → gM 95 i ≠ gM 78 k) ∧ hM' = hM) → (∀ x2 : Int32, am_fwd (am_call tb_P (d + 1)) (am_run (am_call tb_P (d + 1)) tb_r45_0 (n - m)) tb_r45_7 189 [(2, .int x2), (1, .int x1), (0, .ref 73)] [] (pr_S, hM', gM) = some R) → am_fwd (am_call tb_P (d + 1)) (am_run (am_call tb_P (d + 1)) tb_r45_0 n) tb_r45_5 151 [(2, .int (nI q)), (1, .int x1), (0, .ref 73)] [] (pr_S, hM, gM) = some R := by
  intro m
  induction m with
  | zero =>
    intro q n e1 e2 H hR
    obtain rfl : q = w := by omega
    rcases H with ⟨⟨i, a1, a2, _⟩, _⟩ | ⟨_, rfl⟩
    · exact absurd a1 (by omega)
    rw [ht_45_5, ch_45_12]; (try simp +decide (disch := omega) only [ni_bF, nI_clamp, nI_add, pk_mul, dc_ltT, dc_ltF, dc_leT, dc_leF, dc_eqF, dc_neT, dn_eq, dn_ne, dn_lt, dn_ge, si_at, si_c, si_k, q_at_nI, q_put_nI, ne_eq, not_false_eq_true, not_true_eq_false, ↓reduceIte, v0_ltT, v0_ltF, v0_gtT, v0_gtF, v0_leT, v0_leF, v0_geT, v0_geF, v0_eqT, v0_eqF, v0_add, v0_dda, v0_mul, v0_lum, v0_sub, v0_bad, v0_cl, h32]); rw [sk_45_6_189]
    exact hR _
  | succ m ih =>
    intro q n e1 e2 H hR
    obtain ⟨n, rfl⟩ : ∃ n', n = n' + 1 := ⟨n - 1, by omega⟩
    by_cases c : gM 95 q = gM 78 k
    · rcases H with ⟨_, rfl⟩ | ⟨H, _⟩
      · have p := kn_B (hM := xfm2 hM 4 (hM 76 k)) (gM := gM) (k := k) (w := w) (x1 := x1) d (by unfold xfm2; rw [am_si_off (by decide), am_si_off (by decide)]; exact h6) hk (by unfold xfm2; rw [am_si_off (by decide), am_si_off (by decide)]; exact h32) hw (by unfold xfm2; rw [am_si_off (by decide), am_si_at]; decide) R m (q + 1) n (by omega) (by omega) (fun x2 => by rw [show n - m = n + 1 - (m + 1) by omega]; exact hR x2)
        rw [ht_45_5, ch_45_12]; (try simp +decide (disch := omega) only [ni_bF, nI_clamp, nI_add, pk_mul, dc_ltT, dc_ltF, dc_leT, dc_leF, dc_eqF, dc_neT, dn_eq, dn_ne, dn_lt, dn_ge, si_at, si_c, si_k, q_at_nI, q_put_nI, ne_eq, not_false_eq_true, not_true_eq_false, ↓reduceIte, v0_ltT, v0_ltF, v0_gtT, v0_gtF, v0_leT, v0_leF, v0_geT, v0_geF, v0_eqT, v0_eqF, v0_add, v0_dda, v0_mul, v0_lum, v0_sub, v0_bad, v0_cl, h32, h6]); rw [if_neg (fun z => (lg_ne.mp z) c), em_pfail _ z h6 hk, ev_rn, ch_45_16, ht_45_6, ch_45_15]; (try simp +decide (disch := omega) only [ni_bF, nI_clamp, nI_add, pk_mul, dc_ltT, dc_ltF, dc_leT, dc_leF, dc_eqF, dc_neT, dn_eq, dn_ne, dn_lt, dn_ge, si_at, si_c, si_k, q_at_nI, q_put_nI, ne_eq, not_false_eq_true, not_true_eq_false, ↓reduceIte, v0_ltT, v0_ltF, v0_gtT, v0_gtF, v0_leT, v0_leF, v0_geT, v0_geF, v0_eqT, v0_eqF, v0_add, v0_dda, v0_mul, v0_lum, v0_sub, v0_bad, v0_cl, v1_ltT, v1_ltF, v1_gtT, v1_gtF, v1_leT, v1_leF, v1_geT, v1_geF, v1_eqT, v1_eqF, v1_add, v1_dda, v1_mul, v1_lum, v1_sub, v1_bad, v1_cl, h32, h6]); rw [sk_45_7_151, lp_45_151]
        exact p
      · exact absurd c (H q (Nat.le_refl _) (by omega))
    · have p := ih (q + 1) n (by omega) (by omega) (by
        rcases H with ⟨⟨i, i1, i2, i3⟩, e⟩ | ⟨H, e⟩
        · refine Or.inl ⟨⟨i, ?_, i2, i3⟩, e⟩
          rcases Nat.lt_or_ge q i with l | l
          · exact l
          · obtain rfl : i = q := by omega
            exact absurd i3 c
        · exact Or.inr ⟨fun i i1 i2 => H i (by omega) i2, e⟩) (fun x2 => by rw [show n - m = n + 1 - (m + 1) by omega]; exact hR x2)
      rw [ht_45_5, ch_45_12]; (try simp +decide (disch := omega) only [ni_bF, nI_clamp, nI_add, pk_mul, dc_ltT, dc_ltF, dc_leT, dc_leF, dc_eqF, dc_neT, dn_eq, dn_ne, dn_lt, dn_ge, si_at, si_c, si_k, q_at_nI, q_put_nI, ne_eq, not_false_eq_true, not_true_eq_false, ↓reduceIte, v0_ltT, v0_ltF, v0_gtT, v0_gtF, v0_leT, v0_leF, v0_geT, v0_geF, v0_eqT, v0_eqF, v0_add, v0_dda, v0_mul, v0_lum, v0_sub, v0_bad, v0_cl, h32, h6]); rw [if_pos (lg_ne.mpr c), ht_45_6, ch_45_15]; (try simp +decide (disch := omega) only [ni_bF, nI_clamp, nI_add, pk_mul, dc_ltT, dc_ltF, dc_leT, dc_leF, dc_eqF, dc_neT, dn_eq, dn_ne, dn_lt, dn_ge, si_at, si_c, si_k, q_at_nI, q_put_nI, ne_eq, not_false_eq_true, not_true_eq_false, ↓reduceIte, v0_ltT, v0_ltF, v0_gtT, v0_gtF, v0_leT, v0_leF, v0_geT, v0_geF, v0_eqT, v0_eqF, v0_add, v0_dda, v0_mul, v0_lum, v0_sub, v0_bad, v0_cl, v1_ltT, v1_ltF, v1_gtT, v1_gtF, v1_leT, v1_leF, v1_geT, v1_geF, v1_eqT, v1_eqF, v1_add, v1_dda, v1_mul, v1_lum, v1_sub, v1_bad, v1_cl, h32, h6]); rw [sk_45_7_151, lp_45_151]
      exact p
end PE
