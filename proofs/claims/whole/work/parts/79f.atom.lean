/-! both parsers side by side: NAMES and NUMBERS; brackets -/
def exC (h0 : Nat → Nat → Int32) (g0 : Nat → Nat → Int64) (h1 : Nat → Nat → Int32) (g1 : Nat → Nat → Int64) (B : Nat → Nat) (N M rd D o e : Nat) : Prop := ∀ (hC : Nat → Nat → Int32) (gC : Nat → Nat → Int64) (hM : Nat → Nat → Int32) (gM : Nat → Nat → Int64) (k n t w : Nat) (G : List Nat) (π : Nat), ps_O h0 g0 h1 g1 B N M rd hC gC hM gM k o n t w G → 3 * (n + π) ≤ qk B N k → ∃ (rC rM : Int32) (hC' : Nat → Nat → Int32) (gC' : Nat → Nat → Int64) (hM' : Nat → Nat → Int32) (gM' : Nat → Nat → Int64), am_call tb_P e 181 [.ref 32] (pr_S, hC, gC) = some (some (.int rC), (pr_S, hC', gC')) ∧ am_call tb_P e 35 [.ref 73] (pr_S, hM, gM) = some (some (.int rM), (pr_S, hM', gM')) ∧ ps_R h0 g0 h1 g1 B N M rd D hC n t w o π (5 * (41 - o)) (40 - o) G rC rM hC' gC' hM' gM'
section AT
variable {h0 h1 hC hM : Nat → Nat → Int32} {g0 g1 gC gM : Nat → Nat → Int64} {B : Nat → Nat} {N M rd k o n t w π D e s : Nat} {G : List Nat}
theorem sc_mem {T : Nat → Int32} : ∀ {G : List Nat} {i : Nat}, sc_G T G → i < G.length → ∃ x, x ∈ G ∧ T i = nI x
  | [], i, _, h => absurd h (Nat.not_lt_zero _)
  | x :: G, i, ⟨h1, h2⟩, h => by
    by_cases e : i = G.length
    · subst e; exact ⟨x, List.mem_cons_self, h1⟩
    · rw [List.length_cons] at h
      obtain ⟨y, y1, y2⟩ := sc_mem h2 (show i < G.length by omega)
      exact ⟨y, List.mem_cons_of_mem _ y1, y2⟩
theorem xnm_6 {z : Nat} {wh a b c v : Int32} : xnm (am_si hM 73 6 v) z n wh a b c = am_si (xnm hM z n wh a b c) 73 6 v := by
  unfold xnm
  rw [si_comm (r := 73) (k := 6) (r' := 79) (by decide), si_comm (r := 73) (k := 6) (r' := 80) (by decide), si_comm (r := 73) (k := 6) (r' := 81) (by decide), si_comm (r := 73) (k := 6) (r' := 82) (by decide), si_comm (r := 73) (k := 6) (r' := 83) (by decide), si_sw (k := 6) (k' := 24) (by decide)]
/-- the expression inside, whether right or doomed -/
theorem st_ex (X : px h0 h1 g1 B N M rd) (IH : exC h0 g0 h1 g1 B N M rd D o (e + 10)) (S : (ps_O h0 g0 h1 g1 B N M rd hC gC hM gM k o n t w G ∧ 3 * (n + π) ≤ qk B N k) ∨ ps_D h0 g0 h1 g1 B N M rd hC gC hM gM w π) : ∃ (rC rM : Int32) (hC' : Nat → Nat → Int32) (gC' : Nat → Nat → Int64) (hM' : Nat → Nat → Int32) (gM' : Nat → Nat → Int64), am_call tb_P (e + 10) 181 [.ref 32] (pr_S, hC, gC) = some (some (.int rC), (pr_S, hC', gC')) ∧ am_call tb_P (e + 10) 35 [.ref 73] (pr_S, hM, gM) = some (some (.int rM), (pr_S, hM', gM')) ∧ ps_R h0 g0 h1 g1 B N M rd D hC n t w o π (5 * (41 - o)) (40 - o) G rC rM hC' gC' hM' gM' := by
  rcases S with ⟨P, J⟩ | ⟨k, n', P, J⟩
  · exact IH hC gC hM gM k n t w G π P J
  · obtain ⟨hM', o1, o2⟩ := pb_exp (e + 2) X P
    obtain ⟨c1, c2⟩ := cf_0 P
    exact ⟨-1, 0, hC, gC, hM', gM, cf_exp (e + 4) c1 c2, o1, Or.inr ⟨k, n', o2, J⟩⟩
/-- a bracket ends -/
theorem st_close (d : Nat) (X : px h0 h1 g1 B N M rd) (S : (ps_O h0 g0 h1 g1 B N M rd hC gC hM gM k (o + 1) n t w G ∧ 3 * (n + π) ≤ qk B N k ∧ o < 40 ∧ w ≤ 4 + 2 * o) ∨ ps_D h0 g0 h1 g1 B N M rd hC gC hM gM w π) : ∃ (hCl hC' : Nat → Nat → Int32) (gC' : Nat → Nat → Int64) (hM1 : Nat → Nat → Int32), am_call tb_P (d + 6) 197 [.ref 32, .int (hC 32 3)] (pr_S, hC, gC) = some (none, (pr_S, hCl, gC)) ∧ am_call tb_P (d + 6) 178 [.ref 32, .int 41] (pr_S, hCl, gC) = some (none, (pr_S, hC', gC')) ∧ am_call tb_P (d + 6) 29 [.ref 73, .int 41] (pr_S, hM, gM) = some (none, (pr_S, hM1, gM)) ∧ ((hC 32 1 = 0 ∧ tok B N (tp B N k) = 41 ∧ ps_O h0 g0 h1 g1 B N M rd hC' gC' (am_si hM1 73 29 (hM1 73 29 - 1)) gM (k + 1) o n t w G ∧ 3 * (n + π) ≤ qk B N (k + 1) ∧ (∀ c, c ≠ 1 → c ≠ 32 → hC' c = hC c)) ∨ ps_D h0 g0 h1 g1 B N M rd hC' gC' (am_si hM1 73 29 (hM1 73 29 - 1)) gM w π) := by
  rcases S with ⟨P, J, ho, hw⟩ | ⟨k, n', P, J⟩
  · obtain ⟨F1, F2, P'⟩ := id P
    have hk : k < 2001 := by have := X.2.2.2.1; have := P'.1.2.2; omega
    obtain ⟨tk, tpl, _, _⟩ := px_t X F2 P'.1.2.2
    have e2 := P'.2.1.2.1
    have e3 := P'.2.1.2.2.1
    have e29 := P'.2.2.1.2.2.1
    have e6 := P'.2.2.1.1
    have e26 := P'.2.2.1.2.1
    have lv := ea_leave (hC := hC) (gC := gC) (x := hC 32 3) (d + 5)
    rw [e2, nI_pred] at lv
    have PL : ps_O h0 g0 h1 g1 B N M rd (am_si (am_si hC 32 2 (nI o)) 32 3 (hC 32 3)) gC (am_si hM 73 29 (nI o)) gM k o n t w G := po_leave (Y := []) P P'.2.2.2.1.1 (fun c q => by rw [am_si_ne q, am_si_ne q]) (fun x q => by rw [am_si_off (by omega), am_si_off (by omega)]) (by rw [am_si_off (by decide), am_si_at]) (by rw [am_si_at]; exact e3) (fun c q => am_si_ne q) (fun x q _ => am_si_off (by omega)) (am_si_at _ _ _ _) (by rw [am_si_off (by decide)]; exact P'.2.2.1.2.2.2.1) (by omega) hw
    by_cases c : tok B N (tp B N k) = 41
    · obtain ⟨hC', gC', s1, s2, s3⟩ := ps_adv d X PL (by rw [c]; decide)
      have tc : (am_si (am_si hC 32 2 (nI o)) 32 3 (hC 32 3)) 1 1 = 41 := by rw [am_si_ne (by decide), am_si_ne (by decide), P'.1.1.2.1, c]; rfl
      have hh : am_si (am_si hM 73 6 (nI (k + 1))) 73 29 ((am_si hM 73 6 (nI (k + 1))) 73 29 - 1) = am_si (am_si hM 73 29 (nI o)) 73 6 (nI (k + 1)) := by
        rw [am_si_off (by decide), e29, nI_pred, si_sw (by decide)]
      refine ⟨_, hC', gC', am_si hM 73 6 (nI (k + 1)), lv, ?_, ?_, ?_⟩
      · rw [en_178, ht_178_0, ch_178_0, if_neg (fun q => q tc), s1, ev_rn, ch_178_2, sk_178_1_23, ht_178_2, ch_178_4]
      · have i := em_isT (gM := gM) (v := 41) (d + 4) e26 e6 hk (tk.trans (by rw [c]; rfl))
        rw [en_29, ht_29_0, ch_29_0, i, ev_rs, ch_29_1]; (try simp +decide (disch := omega) only [ni_bF, nI_clamp, nI_add, pk_mul, dc_ltT, dc_ltF, dc_leT, dc_leF, dc_eqF, dc_neT, dn_eq, dn_ne, dn_lt, dn_ge, si_at, si_c, si_k, q_at_nI, q_put_nI, ne_eq, not_false_eq_true, not_true_eq_false, ↓reduceIte, v0_ltT, v0_ltF, v0_gtT, v0_gtF, v0_leT, v0_leF, v0_geT, v0_geF, v0_eqT, v0_eqF, v0_add, v0_dda, v0_mul, v0_lum, v0_sub, v0_bad, v0_cl, v1_ltT, v1_ltF, v1_gtT, v1_gtF, v1_leT, v1_leF, v1_geT, v1_geF, v1_eqT, v1_eqF, v1_add, v1_dda, v1_mul, v1_lum, v1_sub, v1_bad, v1_cl, e6]); rw [sk_29_1_25, ht_29_2, ch_29_3]
      · rw [hh]
        rcases s3 with s3 | s3
        · exact Or.inl ⟨P'.2.1.1, c, s3, by have := qk_b c; omega, fun c q1 q2 => by rw [s2 c q1 q2, am_si_ne q2, am_si_ne q2]⟩
        · exact Or.inr ⟨k + 1, n, s3, by have := qk_b c; omega⟩
    · have tc : (am_si (am_si hC 32 2 (nI o)) 32 3 (hC 32 3)) 1 1 ≠ 41 := by rw [am_si_ne (by decide), am_si_ne (by decide), P'.1.1.2.1]; exact fun q => c ((cl_e (b := 41) (tok_l X _) (by decide)).mp q)
      have hh : am_si (xfm2 hM 2 (hM 76 k)) 73 29 ((xfm2 hM 2 (hM 76 k)) 73 29 - 1) = xfm2 (am_si hM 73 29 (nI o)) 2 ((am_si hM 73 29 (nI o)) 76 k) := by
        unfold xfm2
        rw [am_si_off (by decide), am_si_off (by decide), e29, nI_pred, si_sw (show (27 : Nat) ≠ 29 by decide), si_sw (show (26 : Nat) ≠ 29 by decide), am_si_ne (show 76 ≠ 73 by decide)]
      refine ⟨_, xfl (am_si (am_si hC 32 2 (nI o)) 32 3 (hC 32 3)) 2 ((am_si (am_si hC 32 2 (nI o)) 32 3 (hC 32 3)) 1 2), gC, xfm2 hM 2 (hM 76 k), lv, ?_, ?_, Or.inr ⟨k, n, ?_, by omega⟩⟩
      · rw [en_178, ht_178_0, ch_178_0, if_pos tc, ht_178_1, ch_178_1, ea_pfail _ PL.2.2.2.1.1, ev_rn, ch_178_3, ht_178_2, ch_178_4]
      · have i := em_isF (gM := gM) (v := 41) (d + 4) e6 hk (fun _ => by rw [tk]; exact fun q => c ((nI_eq (b := 41) (by have := tok_l X (tp B N k); omega) (by decide)).mp q))
        have od := em_odd (gM := gM) (d + 3) e26 e6 hk (by rw [tk]; exact fun q => P'.1.2.1 ((nI_eq (b := 1) (by have := tok_l X (tp B N k); omega) (by decide)).mp q))
        rw [en_29, ht_29_0, ch_29_0, i, ev_rs, ch_29_1, if_pos rfl, ht_29_1, ch_29_2, od, ev_rn, ch_29_4, ht_29_2, ch_29_3]
      · rw [hh]
        exact ps_fl X PL (by decide)
  · obtain ⟨hM1, o1, o2, o3⟩ := ps_expB (τ := 41) d X P (by decide) (by decide)
    obtain ⟨c1, c2⟩ := cf_0 P
    have lv := ea_leave (hC := hC) (gC := gC) (x := hC 32 3) (d + 5)
    refine ⟨_, am_si (am_si hC 32 2 (hC 32 2 - 1)) 32 3 (hC 32 3), gC, hM1, lv, ea_expB (d + 4) (by decide) (by rw [am_si_off (by decide), am_si_off (by decide)]; exact c1) (by rw [am_si_ne (by decide), am_si_ne (by decide)]; exact c2), o2, Or.inr ⟨k, n', pb_cg o3 (fun c q => by rw [am_si_ne q, am_si_ne q]) (by rw [am_si_off (by decide), am_si_off (by decide)]) (by rw [am_si_off (by decide), am_si_off (by decide)]) (fun c q => am_si_ne q) (fun x q _ _ => am_si_off (by omega)) ?_, J⟩⟩
    obtain ⟨_, _, _, _, _, _, _, _, _, _, _, b8, _⟩ := o3
    rw [am_si_off (by decide)]; exact b8
/-- a NUMBER -/
theorem ct_num (d : Nat) (X : px h0 h1 g1 B N M rd) (P : ps_O h0 g0 h1 g1 B N M rd hC gC hM gM k o n t w G) (J : 3 * (n + π) ≤ qk B N k + s) (hs : s = 0 ∨ (s = 3 ∧ ga B N k ≠ 3)) (c : tok B N (tp B N k) = 3) (fr gr : Nat) : ∃ (rC rM : Int32) (hC' : Nat → Nat → Int32) (gC' : Nat → Nat → Int64) (hM' : Nat → Nat → Int32) (gM' : Nat → Nat → Int64), am_call tb_P (d + 12) 192 [.ref 32] (pr_S, hC, gC) = some (some (.int rC), (pr_S, hC', gC')) ∧ am_call tb_P (d + 12) 43 [.ref 73] (pr_S, hM, gM) = some (some (.int rM), (pr_S, hM', gM')) ∧ ps_R h0 g0 h1 g1 B N M rd D hC n t w o π fr gr G rC rM hC' gC' hM' gM' := by
  obtain ⟨F1, F2, P'⟩ := id P
  have hN := X.2.2.2.2.2.2.2.2
  have hrd := X.2.2.2.2.2.2.1
  have hlt := px_lt X (k := k) (by rw [c]; decide)
  have hk : k < 2001 := by have := X.2.2.2.1; omega
  have qb := qk_N (B := B) (k := k) hN
  obtain ⟨tk, tpl, _, tu⟩ := px_t X F2 P'.1.2.2
  obtain ⟨c1, c2, c3⟩ := tok_3 c
  have nu4 : hC 1 4 = nv B (tp B N k) (lf B N (tp B N k) - tp B N k) := P'.1.1.2.2.2.2 c1 c2 c3
  have mu := tu c
  have e6 := P'.2.2.1.1
  have e26 := P'.2.2.1.2.1
  have q := qk_u hN c
  have xa := xn_at (hC := hC) (n := n) 0 (hC 1 4) (-1) (-1) (-1)
  obtain ⟨y1, y2, y3, y4, y5⟩ := xnm_c (hM := hM) (n := n) (2900 * rd) (wh := 3) (a := hC 1 4) (b := 0) (c := 0)
  obtain ⟨z1, z2, z3, z4, z5⟩ := xnm_at (hM := hM) (n := n) (2900 * rd) 3 (hC 1 4) 0 0
  have Q := po_node (kd := 0) (m := hC 1 4) (a := -1) (b := -1) (c := -1) (hM' := xnm hM (2900 * rd) n 3 (hC 1 4) 0 0) X P (by omega) y1 y2 y3 y4 y5 (by
    unfold nr rp_N
    rw [xa.1, xa.2.1]
    exact ⟨fun _ => ⟨⟨fun _ => ⟨z1, z2⟩, fun q => absurd q (by decide), fun q => absurd q (by decide), fun q => absurd q (by decide), fun q => absurd q (by decide), fun q => absurd q (by decide), fun q => absurd q (by decide), fun q => absurd q (by decide), fun q => absurd q (by decide), fun q => absurd q (by decide)⟩, by rw [z1]; decide⟩, fun q => absurd q (by decide), fun q => absurd q (by decide), fun q => absurd q (by decide), fun q => absurd q (by decide)⟩)
  obtain ⟨hC', gC', s1, s2, s3⟩ := ps_adv (d + 6) X Q (by rw [c]; decide)
  refine ⟨nI n, nI (2900 * rd + n), hC', gC', am_si (xnm hM (2900 * rd) n 3 (hC 1 4) 0 0) 73 6 (nI (k + 1)), gM, ?_, ?_, ?_⟩
  · have tc : hC 1 1 = 259 := by rw [P'.1.1.2.1, c]; rfl
    rw [en_192, ht_192_0, ch_192_0]; (try simp +decide (disch := omega) only [ni_bF, nI_clamp, nI_add, pk_mul, dc_ltT, dc_ltF, dc_leT, dc_leF, dc_eqF, dc_neT, dn_eq, dn_ne, dn_lt, dn_ge, si_at, si_c, si_k, q_at_nI, q_put_nI, ne_eq, not_false_eq_true, not_true_eq_false, ↓reduceIte, v0_ltT, v0_ltF, v0_gtT, v0_gtF, v0_leT, v0_leF, v0_geT, v0_geF, v0_eqT, v0_eqF, v0_add, v0_dda, v0_mul, v0_lum, v0_sub, v0_bad, v0_cl, v40_eqT, v40_eqF, v258_eqT, v258_eqF, v259_eqT, v259_eqF, tc]); rw [sk_192_1_45, ht_192_2, ch_192_3, ea_newNode _ P'.2.1.1 P'.2.2.2.2.2.1.1 (by omega), ev_rs, ch_192_7, sk_192_3_78, ht_192_5, ch_192_9, s1, ev_rn, ch_192_10]
  · have i := em_isT (gM := gM) (v := 3) (d + 10) e26 e6 hk (tk.trans (by rw [c]; rfl))
    have nd := em_node (hM := am_si hM 73 6 (nI (k + 1))) (gM := gM) (n := n) (rd := rd) (wh := 3) (a := hC 1 4) (b := 0) (c := 0) (d + 10) (by rw [am_si_off (by decide)]; exact px_25 X F2) (by rw [am_si_off (by decide)]; exact P'.2.2.1.2.2.2.2) hrd (by omega)
    rw [xnm_6] at nd
    have mu' : hM 77 k = hC 1 4 := by rw [mu, nu4]
    rw [en_43, ht_43_0, ch_43_0, i, ev_rs, ch_43_1]; (try simp +decide (disch := omega) only [ni_bF, nI_clamp, nI_add, pk_mul, dc_ltT, dc_ltF, dc_leT, dc_leF, dc_eqF, dc_neT, dn_eq, dn_ne, dn_lt, dn_ge, si_at, si_c, si_k, q_at_nI, q_put_nI, ne_eq, not_false_eq_true, not_true_eq_false, ↓reduceIte, v0_ltT, v0_ltF, v0_gtT, v0_gtF, v0_leT, v0_leF, v0_geT, v0_geF, v0_eqT, v0_eqF, v0_add, v0_dda, v0_mul, v0_lum, v0_sub, v0_bad, v0_cl, v1_ltT, v1_ltF, v1_gtT, v1_gtF, v1_leT, v1_leF, v1_geT, v1_geF, v1_eqT, v1_eqF, v1_add, v1_dda, v1_mul, v1_lum, v1_sub, v1_bad, v1_cl, e6, Nat.add_sub_cancel, mu']); rw [nd, ev_rs, ch_43_3]
  · rcases s3 with s3 | s3
    · refine Or.inl ⟨k + 1, n + 1, t, s3, by omega, by omega, Nat.le_refl _, rfl, rfl, ?_, ?_, ?_⟩
      · show wfx hC' fr gr n n t t G
        refine wfx_cg (h := xn hC n 0 (hC 1 4) (-1) (-1) (-1)) (n := n + 1) (Or.inl ⟨xa.1, rfl, rfl⟩) (by omega) (fun c i a1 a2 _ => by rw [s2 c (by omega) (by omega)])
      · exact ⟨fun c i a1 a2 _ => by rw [s2 c (by omega) (by omega), xn_c (by omega) (by omega)], fun i a1 a2 => absurd a1 (by omega), fun c i a1 a2 a3 => by rw [s2 c (by omega) (by omega), xn_i (by omega) (by omega)]⟩
      · show gt _ ≠ 3
        rw [c]; decide
    · exact Or.inr ⟨k + 1, n + 1, s3, by omega⟩
/-- a NAME -/
theorem ct_nam (d : Nat) (X : px h0 h1 g1 B N M rd) (P : ps_O h0 g0 h1 g1 B N M rd hC gC hM gM k o n t w G) (J : 3 * (n + π) ≤ qk B N k + s) (hs : s = 0 ∨ (s = 3 ∧ ga B N k ≠ 3)) (c : tok B N (tp B N k) = 2) (fr gr : Nat) : ∃ (rC rM : Int32) (hC' : Nat → Nat → Int32) (gC' : Nat → Nat → Int64) (hM' : Nat → Nat → Int32) (gM' : Nat → Nat → Int64), am_call tb_P (d + 12) 192 [.ref 32] (pr_S, hC, gC) = some (some (.int rC), (pr_S, hC', gC')) ∧ am_call tb_P (d + 12) 43 [.ref 73] (pr_S, hM, gM) = some (some (.int rM), (pr_S, hM', gM')) ∧ ps_R h0 g0 h1 g1 B N M rd D hC n t w o π fr gr G rC rM hC' gC' hM' gM' := by
  obtain ⟨F1, F2, P'⟩ := id P
  have hN := X.2.2.2.2.2.2.2.2
  have hrd := X.2.2.2.2.2.2.1
  have hlt := px_lt X (k := k) (by rw [c]; decide)
  have hk : k < 2001 := by have := X.2.2.2.1; omega
  have qb := qk_N (B := B) (k := k) hN
  obtain ⟨tk, tpl, tn, _⟩ := px_t X F2 P'.1.2.2
  obtain ⟨c1, c2, c3⟩ := tok_n c
  have nmC : gC 1 3 = nm B (tp B N k) (la B N (tp B N k) - tp B N k) := P'.1.1.2.2.2.1 c1 c2
  have mn := tn c
  have e6 := P'.2.2.1.1
  have e26 := P'.2.2.1.2.1
  have q := qk_n hN c
  have hw84 : w ≤ 84 := by have := P'.2.2.2.2.2.2; omega
  have tc : hC 1 1 = 258 := by rw [P'.1.1.2.1, c]; rfl
  have fS := ea_findS (hC := hC) (gC := gC) (d + 9) (gC 1 3) P'.2.1.2.2.1 hw84
  have fe : fs (gM 95) (gM 78 k) w = fs (gC 33) (gC 1 3) w := by
    rw [mn, ← nmC]
    exact fs_cg (fun i hi => (P'.2.2.2.1.2.2.1 i hi).2)
  have hT : ∀ i, i < w → hM 96 i ≠ -1 := fun i hi => by
    obtain ⟨x, x1, x2⟩ := sc_mem P'.2.2.2.1.2.1 (show i < G.length by rw [P'.2.2.2.1.1]; exact hi)
    rw [(P'.2.2.2.1.2.2.1 i hi).1, x2]
    have x3 := P'.2.2.2.1.2.2.2 x x1
    have x4 := P'.2.2.2.2.1.2.2.1
    exact fun z => by rw [nl_m1 (by omega)] at z; exact z
  have i3 := em_isF (gM := gM) (v := 3) (d + 10) e6 hk (fun _ => by rw [tk, c]; decide)
  have i2 := em_isT (gM := gM) (v := 2) (d + 10) e26 e6 hk (tk.trans (by rw [c]; rfl))
  -- behind the lookup: kind kd (1 or 2), with its values
  have fin : ∀ (kd m a wh one : Int32), (kd = 1 ∧ wh = 23 ∧ one = m ∧ a = -1 ∧ (∃ x, x ∈ G ∧ m = nI x) ∧ one ≠ -1) ∨ (kd = 2 ∧ wh = 24 ∧ one = -1 ∧ m = -1 ∧ a = nI (tp B N k)) → am_call tb_P (d + 11) 194 [.ref 32] (pr_S, hC, gC) = some (some (.int (nI n)), (pr_S, xn hC n kd m a (-1) (-1), gC)) → fs_t (hM 96) (fs (gM 95) (gM 78 k) w) = one → ∃ (rC rM : Int32) (hC' : Nat → Nat → Int32) (gC' : Nat → Nat → Int64) (hM' : Nat → Nat → Int32) (gM' : Nat → Nat → Int64), am_call tb_P (d + 12) 192 [.ref 32] (pr_S, hC, gC) = some (some (.int rC), (pr_S, hC', gC')) ∧ am_call tb_P (d + 12) 43 [.ref 73] (pr_S, hM, gM) = some (some (.int rM), (pr_S, hM', gM')) ∧ ps_R h0 g0 h1 g1 B N M rd D hC n t w o π fr gr G rC rM hC' gC' hM' gM' := by
    intro kd m a wh one hkd ecl eft
    have xa := xn_at (hC := hC) (n := n) kd m a (-1) (-1)
    obtain ⟨y1, y2, y3, y4, y5⟩ := xnm_c (hM := hM) (n := n) (2900 * rd) (wh := wh) (a := one) (b := 0) (c := 0)
    obtain ⟨z1, z2, z3, z4, z5⟩ := xnm_at (hM := hM) (n := n) (2900 * rd) wh one 0 0
    have Q := po_node (kd := kd) (m := m) (a := a) (b := -1) (c := -1) (hM' := am_si (xnm hM (2900 * rd) n wh one 0 0) 84 n (nI k)) X P (by omega) (fun c q1 q2 => by rw [am_si_ne (by omega)]; exact y1 c q1 q2) (fun c i q1 q2 q3 => by rw [am_si_ne (by omega)]; exact y2 c i q1 q2 q3) (fun i hi => by rw [am_si_off (by omega)]; exact y3 i hi) (fun x hx => by rw [am_si_ne (by decide)]; exact y4 x hx) (by rw [am_si_ne (by decide)]; exact y5) (by
      unfold nr rp_N
      rw [xa.1, xa.2.1, xa.2.2.1, am_si_ne (show 79 ≠ 84 by decide), am_si_ne (show 80 ≠ 84 by decide), am_si_at]
      rcases hkd with ⟨rfl, rfl, rfl, rfl, _⟩ | ⟨rfl, rfl, rfl, rfl, rfl⟩
      · exact ⟨fun _ => ⟨⟨fun q => absurd q (by decide), fun _ => ⟨z1, z2⟩, fun q => absurd q (by decide), fun q => absurd q (by decide), fun q => absurd q (by decide), fun q => absurd q (by decide), fun q => absurd q (by decide), fun q => absurd q (by decide), fun q => absurd q (by decide), fun q => absurd q (by decide)⟩, by rw [z1]; decide⟩, fun q => absurd q (by decide), fun q => absurd q (by decide), fun q => absurd q (by decide), fun q => absurd q (by decide)⟩
      · exact ⟨fun q => absurd rfl q, fun _ => ⟨z1, z2, rfl, k, hlt, c, rfl, rfl, Nat.le_refl _, fun i' q1 q2 => by
          rw [xn_i (by omega) (by decide)] at q2
          obtain ⟨_, _, _, j, b1, b2, b3, b4, b5, b6⟩ := (P'.2.2.2.2.2.1.2 i' q1).2.1 q2
          have hM2 := X.2.2.2.1
          rw [am_si_off (by omega), y3 i' (by omega), b4, nI_clamp (by omega)]
          exact b5⟩, fun q => absurd q (by decide), fun q => absurd q (by decide), fun q => absurd q (by decide)⟩)
    obtain ⟨hC', gC', s1, s2, s3⟩ := ps_adv (d + 6) X Q (by rw [c]; decide)
    refine ⟨nI n, nI (2900 * rd + n), hC', gC', am_si (am_si (xnm hM (2900 * rd) n wh one 0 0) 84 n (nI k)) 73 6 (nI (k + 1)), gM, ?_, ?_, ?_⟩
    · rw [en_192, ht_192_0, ch_192_0]; (try simp +decide (disch := omega) only [ni_bF, nI_clamp, nI_add, pk_mul, dc_ltT, dc_ltF, dc_leT, dc_leF, dc_eqF, dc_neT, dn_eq, dn_ne, dn_lt, dn_ge, si_at, si_c, si_k, q_at_nI, q_put_nI, ne_eq, not_false_eq_true, not_true_eq_false, ↓reduceIte, v0_ltT, v0_ltF, v0_gtT, v0_gtF, v0_leT, v0_leF, v0_geT, v0_geF, v0_eqT, v0_eqF, v0_add, v0_dda, v0_mul, v0_lum, v0_sub, v0_bad, v0_cl, v40_eqT, v40_eqF, v258_eqT, v258_eqF, v259_eqT, v259_eqF, tc]); rw [sk_192_1_63, ht_192_3, ch_192_2, ecl, ev_rs, ch_192_6, sk_192_4_78, ht_192_5, ch_192_9, s1, ev_rn, ch_192_10]
    · have nd := em_node (hM := hM) (gM := gM) (n := n) (rd := rd) (wh := wh) (a := one) (b := 0) (c := 0) (d + 10) (px_25 X F2) P'.2.2.1.2.2.2.2 hrd (by omega)
      have e25 : (xnm hM (2900 * rd) n wh one 0 0) 73 25 = nI rd := by rw [y4 _ (by decide)]; exact px_25 X F2
      have e6' : (xnm hM (2900 * rd) n wh one 0 0) 73 6 = nI k := by rw [y4 _ (by decide)]; exact e6
      have es : nI (2900 * rd + n) - nI (rd * 2900) = nI n := by rw [Nat.mul_comm rd, nI_sub (by omega)]; congr 1; omega
      have m32 := P'.2.2.1.2.2.2.1
      rw [en_43, ht_43_0, ch_43_0, i3, ev_rs, ch_43_1]; (try simp +decide (disch := omega) only [ni_bF, nI_clamp, nI_add, pk_mul, dc_ltT, dc_ltF, dc_leT, dc_leF, dc_eqF, dc_neT, dn_eq, dn_ne, dn_lt, dn_ge, si_at, si_c, si_k, q_at_nI, q_put_nI, ne_eq, not_false_eq_true, not_true_eq_false, ↓reduceIte, v0_ltT, v0_ltF, v0_gtT, v0_gtF, v0_leT, v0_leF, v0_geT, v0_geF, v0_eqT, v0_eqF, v0_add, v0_dda, v0_mul, v0_lum, v0_sub, v0_bad, v0_cl, v1_ltT, v1_ltF, v1_gtT, v1_gtF, v1_leT, v1_leF, v1_geT, v1_geF, v1_eqT, v1_eqF, v1_add, v1_dda, v1_mul, v1_lum, v1_sub, v1_bad, v1_cl]); rw [ht_43_1, ch_43_2, i2, ev_rs, ch_43_4]; (try simp +decide (disch := omega) only [ni_bF, nI_clamp, nI_add, pk_mul, dc_ltT, dc_ltF, dc_leT, dc_leF, dc_eqF, dc_neT, dn_eq, dn_ne, dn_lt, dn_ge, si_at, si_c, si_k, q_at_nI, q_put_nI, ne_eq, not_false_eq_true, not_true_eq_false, ↓reduceIte, v0_ltT, v0_ltF, v0_gtT, v0_gtF, v0_leT, v0_leF, v0_geT, v0_geF, v0_eqT, v0_eqF, v0_add, v0_dda, v0_mul, v0_lum, v0_sub, v0_bad, v0_cl, v1_ltT, v1_ltF, v1_gtT, v1_gtF, v1_leT, v1_leF, v1_geT, v1_geF, v1_eqT, v1_eqF, v1_add, v1_dda, v1_mul, v1_lum, v1_sub, v1_bad, v1_cl]); rw [m32]
      refine fm_loop (am_call tb_P (d + 11)) hT e6 hk (by omega) _ w 999999 (Nat.le_refl _) (by omega) (fun x2 => ?_)
      rw [eft]
      rcases hkd with ⟨_, rfl, _, _, _, h1⟩ | ⟨_, rfl, rfl, _, _⟩
      · rw [ht_43_5, ch_43_8]; (try simp +decide (disch := omega) only [ni_bF, nI_clamp, nI_add, pk_mul, dc_ltT, dc_ltF, dc_leT, dc_leF, dc_eqF, dc_neT, dn_eq, dn_ne, dn_lt, dn_ge, si_at, si_c, si_k, q_at_nI, q_put_nI, ne_eq, not_false_eq_true, not_true_eq_false, ↓reduceIte, v0_ltT, v0_ltF, v0_gtT, v0_gtF, v0_leT, v0_leF, v0_geT, v0_geF, v0_eqT, v0_eqF, v0_add, v0_dda, v0_mul, v0_lum, v0_sub, v0_bad, v0_cl, e25, e6', es]); rw [if_pos h1, ht_43_6, ch_43_13, ht_43_7, ch_43_14, nd, ev_rs, ch_43_16]; try simp +decide (disch := omega) only [ni_bF, nI_clamp, nI_add, pk_mul, dc_ltT, dc_ltF, dc_leT, dc_leF, dc_eqF, dc_neT, dn_eq, dn_ne, dn_lt, dn_ge, si_at, si_c, si_k, q_at_nI, q_put_nI, ne_eq, not_false_eq_true, not_true_eq_false, ↓reduceIte, v0_ltT, v0_ltF, v0_gtT, v0_gtF, v0_leT, v0_leF, v0_geT, v0_geF, v0_eqT, v0_eqF, v0_add, v0_dda, v0_mul, v0_lum, v0_sub, v0_bad, v0_cl, v1_ltT, v1_ltF, v1_gtT, v1_gtF, v1_leT, v1_leF, v1_geT, v1_geF, v1_eqT, v1_eqF, v1_add, v1_dda, v1_mul, v1_lum, v1_sub, v1_bad, v1_cl, v2900_ltT, v2900_ltF, v2900_gtT, v2900_gtF, v2900_leT, v2900_leF, v2900_geT, v2900_geF, v2900_eqT, v2900_eqF, v2900_add, v2900_dda, v2900_mul, v2900_lum, v2900_sub, v2900_bad, v2900_cl, e25, e6', es]
      · rw [ht_43_5, ch_43_8]; (try simp +decide (disch := omega) only [ni_bF, nI_clamp, nI_add, pk_mul, dc_ltT, dc_ltF, dc_leT, dc_leF, dc_eqF, dc_neT, dn_eq, dn_ne, dn_lt, dn_ge, si_at, si_c, si_k, q_at_nI, q_put_nI, ne_eq, not_false_eq_true, not_true_eq_false, ↓reduceIte, v0_ltT, v0_ltF, v0_gtT, v0_gtF, v0_leT, v0_leF, v0_geT, v0_geF, v0_eqT, v0_eqF, v0_add, v0_dda, v0_mul, v0_lum, v0_sub, v0_bad, v0_cl, e25, e6', es]); rw [sk_43_6_112, ht_43_7, ch_43_14, nd, ev_rs, ch_43_16]; try simp +decide (disch := omega) only [ni_bF, nI_clamp, nI_add, pk_mul, dc_ltT, dc_ltF, dc_leT, dc_leF, dc_eqF, dc_neT, dn_eq, dn_ne, dn_lt, dn_ge, si_at, si_c, si_k, q_at_nI, q_put_nI, ne_eq, not_false_eq_true, not_true_eq_false, ↓reduceIte, v0_ltT, v0_ltF, v0_gtT, v0_gtF, v0_leT, v0_leF, v0_geT, v0_geF, v0_eqT, v0_eqF, v0_add, v0_dda, v0_mul, v0_lum, v0_sub, v0_bad, v0_cl, v1_ltT, v1_ltF, v1_gtT, v1_gtF, v1_leT, v1_leF, v1_geT, v1_geF, v1_eqT, v1_eqF, v1_add, v1_dda, v1_mul, v1_lum, v1_sub, v1_bad, v1_cl, v2900_ltT, v2900_ltF, v2900_gtT, v2900_gtF, v2900_leT, v2900_leF, v2900_geT, v2900_geF, v2900_eqT, v2900_eqF, v2900_add, v2900_dda, v2900_mul, v2900_lum, v2900_sub, v2900_bad, v2900_cl, e25, e6', es]
    · rcases s3 with s3 | s3
      · refine Or.inl ⟨k + 1, n + 1, t, s3, by omega, by omega, Nat.le_refl _, rfl, rfl, ?_, ?_, ?_⟩
        · show wfx hC' fr gr n n t t G
          refine wfx_cg (h := xn hC n kd m a (-1) (-1)) (n := n + 1) ?_ (by omega) (fun c i a1 a2 _ => by rw [s2 c (by omega) (by omega)])
          rcases hkd with ⟨rfl, _, _, _, ⟨x, x1, x2⟩, _⟩ | ⟨rfl, _⟩
          · refine Or.inr (Or.inl ⟨xa.1, rfl, rfl, x, ?_, x1⟩)
            unfold mk
            rw [xa.1, xa.2.1, if_neg (by decide)]; exact x2
          · refine Or.inr (Or.inr (Or.inl ⟨xa.1, rfl, rfl, 0, ?_, by omega⟩))
            unfold mk
            rw [xa.1, if_pos rfl]; rfl
        · exact ⟨fun c i a1 a2 _ => by rw [s2 c (by omega) (by omega), xn_c (by omega) (by omega)], fun i a1 a2 => absurd a1 (by omega), fun c i a1 a2 a3 => by rw [s2 c (by omega) (by omega), xn_i (by omega) (by omega)]⟩
        · show gt _ ≠ 3
          rw [c]; decide
      · exact Or.inr ⟨k + 1, n + 1, s3, by omega⟩
  cases ef : fs (gC 33) (gC 1 3) w with
  | none =>
    rw [ef] at fS fe
    refine fin 2 (-1) (nI (tp B N k)) 24 (-1) (Or.inr ⟨rfl, rfl, rfl, rfl, rfl⟩) ?_ (by rw [fe]; rfl)
    have st := P'.1.1.1
    rw [en_194, ht_194_0, ch_194_0, fS, ev_rs, ch_194_1, if_pos (by decide), ht_194_1, ch_194_2, st, ea_newNode _ P'.2.1.1 P'.2.2.2.2.2.1.1 (by omega), ev_rs, ch_194_4]
  | some i =>
    rw [ef] at fS fe
    have il := (fs_lt ef).1
    obtain ⟨x, x1, x2⟩ := sc_mem P'.2.2.2.1.2.1 (show i < G.length by rw [P'.2.2.2.1.1]; exact il)
    refine fin 1 (hC 34 i) (-1) 23 (hM 96 i) (Or.inl ⟨rfl, rfl, (P'.2.2.2.1.2.2.1 i il).1, rfl, ⟨x, x1, x2⟩, hT i il⟩) ?_ (by rw [fe]; rfl)
    have fS' : am_call tb_P (d + 10) 201 [.ref 32, .long (gC 1 3)] (pr_S, hC, gC) = some (some (.int (nI i)), (pr_S, hC, gC)) := fS
    rw [en_194, ht_194_0, ch_194_0, fS', ev_rs, ch_194_1]; (try simp +decide (disch := omega) only [ni_bF, nI_clamp, nI_add, pk_mul, dc_ltT, dc_ltF, dc_leT, dc_leF, dc_eqF, dc_neT, dn_eq, dn_ne, dn_lt, dn_ge, si_at, si_c, si_k, q_at_nI, q_put_nI, ne_eq, not_false_eq_true, not_true_eq_false, ↓reduceIte, v0_ltT, v0_ltF, v0_gtT, v0_gtF, v0_leT, v0_leF, v0_geT, v0_geF, v0_eqT, v0_eqF, v0_add, v0_dda, v0_mul, v0_lum, v0_sub, v0_bad, v0_cl]); rw [at_34, ev_rs, ch_194_3]; (try simp +decide (disch := omega) only [ni_bF, nI_clamp, nI_add, pk_mul, dc_ltT, dc_ltF, dc_leT, dc_leF, dc_eqF, dc_neT, dn_eq, dn_ne, dn_lt, dn_ge, si_at, si_c, si_k, q_at_nI, q_put_nI, ne_eq, not_false_eq_true, not_true_eq_false, ↓reduceIte, v0_ltT, v0_ltF, v0_gtT, v0_gtF, v0_leT, v0_leF, v0_geT, v0_geF, v0_eqT, v0_eqF, v0_add, v0_dda, v0_mul, v0_lum, v0_sub, v0_bad, v0_cl]); rw [ea_newNode _ P'.2.1.1 P'.2.2.2.2.2.1.1 (by omega), ev_rs, ch_194_5]
end AT
