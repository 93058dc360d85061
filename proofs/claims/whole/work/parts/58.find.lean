/-! what a NAME is bound to, in both; the reference's way of a NEED -/
section FI
variable {hl : Nat → Nat → Int64} {T' : Nat → Int32} {EB EU : Nat → Int32} {B E : Nat}
/-- the first binding of t in a scope -/
theorem fd_ex {T O : Nat → Int32} {t : Nat} : ∀ {X : List Nat} {b e : Int32}, t ∈ X → sr_X T O EB EU B E X b e → ∃ i, i < B ∧ T i = nI t
  | [], _, _, h, _ => absurd h List.not_mem_nil
  | u :: X, b, e, h, ⟨i, j, a1, a2, a3, a4, a5, a6, a7⟩ => by
    by_cases c : u = t
    · exact ⟨i, a1, by rw [a5, c]⟩
    · exact fd_ex ((List.mem_cons.mp h).resolve_left (fun q => c q.symm)) a7
/-- the binding that both find -/
def fd_I (T O : Nat → Int32) (t : Nat) : List Nat → Int32 → Int32
  | [], _ => -1
  | u :: X, b => if u = t then b else fd_I T O t X (O b.toNatClampNeg)
theorem fd_in {T O : Nat → Int32} {t : Nat} (hB : B < 2 ^ 31) : ∀ {X : List Nat} {b e : Int32}, t ∈ X → sr_X T O EB EU B E X b e → ∃ i, i < B ∧ T i = nI t ∧ fd_I T O t X b = nI i
  | [], _, _, h, _ => absurd h List.not_mem_nil
  | u :: X, b, e, h, ⟨i, j, a1, a2, a3, a4, a5, a6, a7⟩ => by
    unfold fd_I
    by_cases c : u = t
    · rw [if_pos c]; exact ⟨i, a1, by rw [a5, c], a3⟩
    · rw [if_neg c, a3, nI_clamp (by omega)]
      exact fd_in hB ((List.mem_cons.mp h).resolve_left (fun q => c q.symm)) a7
theorem ea_findL (C0 : am_C) (d t : Nat) (hC : C0 = am_call tb_P (d + 1)) (ht : t < 200) (x1 : Int32) (h : Nat → Nat → Int32) (hB : B ≤ 20100) : ∀ (X : List Nat) (b e : Int32) (i n : Nat), t ∈ X → (∀ u ∈ X, u < 200) → sr_X (h 49) (h 52) EB EU B E X b e → i + X.length ≤ 201 → X.length ≤ n → am_fwd C0 (am_run C0 tb_r93_0 n) tb_r93_1 5 [(4, .int (nI i)), (3, .int b), (0, .ref 48), (1, .int x1), (2, .int (nI t))] [] (pr_S, h, hl) = some (some (.int (fd_I (h 49) (h 52) t X b)), (pr_S, h, hl)) := by
  subst hC
  intro X
  induction X with
  | nil => intro b e i n h1; exact absurd h1 List.not_mem_nil
  | cons u X ih =>
    rintro b e i n h1 hu ⟨p, q, a1, a2, a3, a4, a5, a6, a7⟩ h3 h4
    rw [List.length_cons] at h3 h4
    have u2 := hu u List.mem_cons_self
    subst a3
    by_cases c : u = t
    · subst c
      rw [show fd_I (h 49) (h 52) u (u :: X) (nI p) = nI p from if_pos rfl]
      rw [ht_93_1, ch_93_1]; (try simp +decide (disch := omega) only [ni_bF, nI_clamp, nI_add, pk_mul, dc_ltT, dc_ltF, dc_leT, dc_leF, dc_eqF, dc_neT, dn_eq, dn_ne, dn_lt, dn_ge, si_at, si_c, si_k, q_at_nI, q_put_nI, ne_eq, not_false_eq_true, not_true_eq_false, ↓reduceIte, v0_ltT, v0_ltF, v0_gtT, v0_gtF, v0_leT, v0_leF, v0_geT, v0_geF, v0_eqT, v0_eqF, v0_add, v0_dda, v0_mul, v0_lum, v0_sub, v0_bad, v0_cl, v200_ltT, v200_ltF, v200_gtT, v200_gtF, v200_leT, v200_leF, v200_geT, v200_geF, v200_eqT, v200_eqF, v200_add, v200_dda, v200_mul, v200_lum, v200_sub, v200_bad, v200_cl, a5]); rw [at_49, ev_rs, ch_93_3]; try simp +decide (disch := omega) only [ni_bF, nI_clamp, nI_add, pk_mul, dc_ltT, dc_ltF, dc_leT, dc_leF, dc_eqF, dc_neT, dn_eq, dn_ne, dn_lt, dn_ge, si_at, si_c, si_k, q_at_nI, q_put_nI, ne_eq, not_false_eq_true, not_true_eq_false, ↓reduceIte, v0_ltT, v0_ltF, v0_gtT, v0_gtF, v0_leT, v0_leF, v0_geT, v0_geF, v0_eqT, v0_eqF, v0_add, v0_dda, v0_mul, v0_lum, v0_sub, v0_bad, v0_cl, a5]
    · obtain ⟨n, rfl⟩ : ∃ n', n = n' + 1 := ⟨n - 1, by omega⟩
      have k := ih (h 52 p) (EU q) (i + 1) n ((List.mem_cons.mp h1).resolve_left (fun q => c q.symm)) (fun u hu' => hu u (List.mem_cons_of_mem _ hu')) a7 (by omega) (by omega)
      rw [show fd_I (h 49) (h 52) t (u :: X) (nI p) = fd_I (h 49) (h 52) t X (h 52 p) from (if_neg c).trans (by rw [nI_clamp (by omega)])]
      rw [ht_93_1, ch_93_1]; (try simp +decide (disch := omega) only [ni_bF, nI_clamp, nI_add, pk_mul, dc_ltT, dc_ltF, dc_leT, dc_leF, dc_eqF, dc_neT, dn_eq, dn_ne, dn_lt, dn_ge, si_at, si_c, si_k, q_at_nI, q_put_nI, ne_eq, not_false_eq_true, not_true_eq_false, ↓reduceIte, v0_ltT, v0_ltF, v0_gtT, v0_gtF, v0_leT, v0_leF, v0_geT, v0_geF, v0_eqT, v0_eqF, v0_add, v0_dda, v0_mul, v0_lum, v0_sub, v0_bad, v0_cl, v200_ltT, v200_ltF, v200_gtT, v200_gtF, v200_leT, v200_leF, v200_geT, v200_geF, v200_eqT, v200_eqF, v200_add, v200_dda, v200_mul, v200_lum, v200_sub, v200_bad, v200_cl, a5]); rw [at_49, ev_rs, ch_93_3]; (try simp +decide (disch := omega) only [ni_bF, nI_clamp, nI_add, pk_mul, dc_ltT, dc_ltF, dc_leT, dc_leF, dc_eqF, dc_neT, dn_eq, dn_ne, dn_lt, dn_ge, si_at, si_c, si_k, q_at_nI, q_put_nI, ne_eq, not_false_eq_true, not_true_eq_false, ↓reduceIte, v0_ltT, v0_ltF, v0_gtT, v0_gtF, v0_leT, v0_leF, v0_geT, v0_geF, v0_eqT, v0_eqF, v0_add, v0_dda, v0_mul, v0_lum, v0_sub, v0_bad, v0_cl, a5]); rw [ht_93_2, ch_93_4, at_52, ev_rs, ch_93_5]; (try simp +decide (disch := omega) only [ni_bF, nI_clamp, nI_add, pk_mul, dc_ltT, dc_ltF, dc_leT, dc_leF, dc_eqF, dc_neT, dn_eq, dn_ne, dn_lt, dn_ge, si_at, si_c, si_k, q_at_nI, q_put_nI, ne_eq, not_false_eq_true, not_true_eq_false, ↓reduceIte, v0_ltT, v0_ltF, v0_gtT, v0_gtF, v0_leT, v0_leF, v0_geT, v0_geF, v0_eqT, v0_eqF, v0_add, v0_dda, v0_mul, v0_lum, v0_sub, v0_bad, v0_cl, v1_ltT, v1_ltF, v1_gtT, v1_gtF, v1_leT, v1_leF, v1_geT, v1_geF, v1_eqT, v1_eqF, v1_add, v1_dda, v1_mul, v1_lum, v1_sub, v1_bad, v1_cl, a5]); rw [sk_93_3_5, lp_93_5]
      exact k
/-- find, the class -/
theorem ea_find (d t : Nat) (ht : t < 200) (b e : Int32) (X : List Nat) (h : Nat → Nat → Int32) (hB : B ≤ 20100) (h1 : t ∈ X) (hu : ∀ u ∈ X, u < 200) (s : sr_X (h 49) (h 52) EB EU B E X b e) (hX : X.length ≤ 200) : am_call tb_P (d + 2) 93 [.ref 48, .int b, .int (nI t)] (pr_S, h, hl) = some (some (.int (fd_I (h 49) (h 52) t X b)), (pr_S, h, hl)) := by
  have k := ea_findL (hl := hl) (am_call tb_P (d + 1)) d t rfl ht b h hB X b e 0 999999 h1 hu s (by omega) (by omega)
  rw [en_93, ht_93_0, ch_93_0]
  exact k
theorem em_findL (C0 : am_C) (t : Nat) (ht : t < 200) (x2 : Int32) (T O : Nat → Int32) (h : Nat → Nat → Int32) (hB : B ≤ 20100) (hE : E ≤ 42000) (hT : ∀ i, i < B → h 110 i = T i) : ∀ (X : List Nat) (b e : Int32) (n : Nat), t ∈ X → (∀ u ∈ X, u < 200) → sr_X T O (h 114) (h 115) B E X b e → X.length ≤ n → am_fwd C0 (am_run C0 tb_r73_0 n) tb_r73_1 2 [(3, .int e), (0, .ref 73), (1, .int (nI t)), (2, .int x2)] [] (pr_S, h, hl) = some (some (.int (fd_I T O t X b)), (pr_S, h, hl)) := by
  intro X
  induction X with
  | nil => intro b e n h1; exact absurd h1 List.not_mem_nil
  | cons u X ih =>
    rintro b e n h1 hu ⟨p, q, a1, a2, a3, a4, a5, a6, a7⟩ h4
    rw [List.length_cons] at h4
    have u2 := hu u List.mem_cons_self
    subst a3
    subst a4
    have a8 : h 110 p = nI u := (hT p a1).trans a5
    by_cases c : u = t
    · subst c
      rw [show fd_I T O u (u :: X) (nI p) = nI p from if_pos rfl]
      rw [ht_73_1, ch_73_1]; (try simp +decide (disch := omega) only [ni_bF, nI_clamp, nI_add, pk_mul, dc_ltT, dc_ltF, dc_leT, dc_leF, dc_eqF, dc_neT, dn_eq, dn_ne, dn_lt, dn_ge, si_at, si_c, si_k, q_at_nI, q_put_nI, ne_eq, not_false_eq_true, not_true_eq_false, ↓reduceIte, v0_ltT, v0_ltF, v0_gtT, v0_gtF, v0_leT, v0_leF, v0_geT, v0_geF, v0_eqT, v0_eqF, v0_add, v0_dda, v0_mul, v0_lum, v0_sub, v0_bad, v0_cl, a6, a8]); rw [ht_73_2, ch_73_2]; try simp +decide (disch := omega) only [ni_bF, nI_clamp, nI_add, pk_mul, dc_ltT, dc_ltF, dc_leT, dc_leF, dc_eqF, dc_neT, dn_eq, dn_ne, dn_lt, dn_ge, si_at, si_c, si_k, q_at_nI, q_put_nI, ne_eq, not_false_eq_true, not_true_eq_false, ↓reduceIte, v0_ltT, v0_ltF, v0_gtT, v0_gtF, v0_leT, v0_leF, v0_geT, v0_geF, v0_eqT, v0_eqF, v0_add, v0_dda, v0_mul, v0_lum, v0_sub, v0_bad, v0_cl, a6, a8]
    · obtain ⟨n, rfl⟩ : ∃ n', n = n' + 1 := ⟨n - 1, by omega⟩
      have k := ih (O p) (h 115 q) n ((List.mem_cons.mp h1).resolve_left (fun q => c q.symm)) (fun u hu' => hu u (List.mem_cons_of_mem _ hu')) a7 (by omega)
      rw [show fd_I T O t (u :: X) (nI p) = fd_I T O t X (O p) from (if_neg c).trans (by rw [nI_clamp (by omega)])]
      rw [ht_73_1, ch_73_1]; (try simp +decide (disch := omega) only [ni_bF, nI_clamp, nI_add, pk_mul, dc_ltT, dc_ltF, dc_leT, dc_leF, dc_eqF, dc_neT, dn_eq, dn_ne, dn_lt, dn_ge, si_at, si_c, si_k, q_at_nI, q_put_nI, ne_eq, not_false_eq_true, not_true_eq_false, ↓reduceIte, v0_ltT, v0_ltF, v0_gtT, v0_gtF, v0_leT, v0_leF, v0_geT, v0_geF, v0_eqT, v0_eqF, v0_add, v0_dda, v0_mul, v0_lum, v0_sub, v0_bad, v0_cl, a6, a8]); rw [sk_73_2_2, lp_73_2]
      exact k
theorem em_find (d t : Nat) (ht : t < 200) (b e : Int32) (X : List Nat) (T O : Nat → Int32) (h : Nat → Nat → Int32) (hB : B ≤ 20100) (hE : E ≤ 42000) (hT : ∀ i, i < B → h 110 i = T i) (h1 : t ∈ X) (hu : ∀ u ∈ X, u < 200) (s : sr_X T O (h 114) (h 115) B E X b e) (hX : X.length ≤ 200) : am_call tb_P (d + 1) 73 [.ref 73, .int (nI t), .int e] (pr_S, h, hl) = some (some (.int (fd_I T O t X b)), (pr_S, h, hl)) := by
  have k := em_findL (hl := hl) (am_call tb_P d) t ht e T O h hB hE hT X b e 999999 h1 hu s (by omega)
  rw [en_73, ht_73_0, ch_73_0]
  exact k
/-- the reference counts a NEED along its way -/
theorem em_needL (C0 : am_C) (nb cn cl : Nat) (x1 : Int32) (TH F OW CC : Nat → Int32) (hnb : nb ≤ 20100) (hc : cn + cl < 2 ^ 30) (hF : ∀ b, b < nb → sr_o b (F b)) (hT : ∀ b, b < nb → sr_o 200 (TH b)) : ∀ (m : Nat) (p : Int32) (n : Nat) (h : Nat → Nat → Int32), m ≤ nb → m ≤ n → sr_o m p → (∀ i, i < nb → h 110 i = TH i ∧ h 112 i = F i) → nd_R nb cn cl p TH F OW (h 113) CC (h 127) →
    ∃ h', (∀ c, c ≠ 113 → c ≠ 127 → h' c = h c) ∧ nd_R nb cn cl (-1) TH F OW (h' 113) CC (h' 127) ∧ ∀ r, am_fwd C0 (am_run C0 tb_r82_0 0) tb_r82_3 70 [(2, .int (-1)), (0, .ref 73), (1, .int x1)] [] (pr_S, h', hl) = some r → am_fwd C0 (am_run C0 tb_r82_0 n) tb_r82_1 12 [(2, .int p), (0, .ref 73), (1, .int x1)] [] (pr_S, h, hl) = some r := by
  intro m
  induction m with
  | zero =>
    intro p n h h1 h2 h3 h4 h5
    rcases h3 with h3 | ⟨i, h3, _⟩
    · subst h3
      refine ⟨h, fun _ _ _ => rfl, h5, fun r hr => ?_⟩
      rw [ht_82_1, ch_82_1, if_pos rfl, sk_82_2_70]
      exact mo_f (Nat.zero_le _) (by repeat (first | exact trivial | refine And.intro rfl ?_)) rfl hr
    · exact absurd h3 (Nat.not_lt_zero _)
  | succ m ih =>
    intro p n h h1 h2 h3 h4 h5
    rcases h3 with h3 | ⟨i, h3, rfl⟩
    · exact ih p n h (by omega) (by omega) (Or.inl h3) h4 h5
    · obtain ⟨n, rfl⟩ : ∃ n', n = n' + 1 := ⟨n - 1, by omega⟩
      by_cases em : i < m
      · exact ih (nI i) (n + 1) h (by omega) (by omega) (Or.inr ⟨i, em, rfl⟩) h4 h5
      have ei : i = m := by omega
      subst ei
      have q1 := (h4 i (by omega)).1
      have q2 := (h4 i (by omega)).2
      rcases hT i (by omega) with t | ⟨t, t1, t2⟩
      · have r1 := nd_up (CR' := h 127) (by omega) (by omega) (by omega) (hF i (by omega)) (hT i (by omega)) h5 (fun t0 _ => by rw [if_neg (by rw [t]; exact fun q => by rw [eq_comm, nl_m1 (by omega)] at q; exact q)])
        obtain ⟨h', g1, g2, g3⟩ := ih (F i) n (am_si h 113 i (h 113 i + 1)) (by omega) (by omega) (hF i (by omega)) (fun j hj => by rw [am_si_ne (by decide), am_si_ne (by decide)]; exact h4 j hj) (by rw [am_si_self, am_si_ne (by decide)]; exact r1)
        refine ⟨h', fun c z1 z2 => by rw [g1 c z1 z2, am_si_ne z1], g2, fun r hr => ?_⟩
        rw [t] at q1
        rw [ht_82_1, ch_82_1]; (try simp +decide (disch := omega) only [ni_bF, nI_clamp, nI_add, pk_mul, dc_ltT, dc_ltF, dc_leT, dc_leF, dc_eqF, dc_neT, dn_eq, dn_ne, dn_lt, dn_ge, si_at, si_c, si_k, q_at_nI, q_put_nI, ne_eq, not_false_eq_true, not_true_eq_false, ↓reduceIte, v0_ltT, v0_ltF, v0_gtT, v0_gtF, v0_leT, v0_leF, v0_geT, v0_geF, v0_eqT, v0_eqF, v0_add, v0_dda, v0_mul, v0_lum, v0_sub, v0_bad, v0_cl, v1_ltT, v1_ltF, v1_gtT, v1_gtF, v1_leT, v1_leF, v1_geT, v1_geF, v1_eqT, v1_eqF, v1_add, v1_dda, v1_mul, v1_lum, v1_sub, v1_bad, v1_cl, q1, q2]); rw [ht_82_2, ch_82_3]; (try simp +decide (disch := omega) only [ni_bF, nI_clamp, nI_add, pk_mul, dc_ltT, dc_ltF, dc_leT, dc_leF, dc_eqF, dc_neT, dn_eq, dn_ne, dn_lt, dn_ge, si_at, si_c, si_k, q_at_nI, q_put_nI, ne_eq, not_false_eq_true, not_true_eq_false, ↓reduceIte, v0_ltT, v0_ltF, v0_gtT, v0_gtF, v0_leT, v0_leF, v0_geT, v0_geF, v0_eqT, v0_eqF, v0_add, v0_dda, v0_mul, v0_lum, v0_sub, v0_bad, v0_cl, q1, q2]); rw [sk_82_3_12, lp_82_12]
        exact mo_f (Nat.le_refl _) (by repeat (first | exact trivial | refine And.intro rfl ?_)) rfl (g3 r hr)
      · have r1 := nd_up (CR' := upd (h 127) t (us_max (h 127 t) (h 113 i + 1))) (by omega) (by omega) (by omega) (hF i (by omega)) (hT i (by omega)) h5 (fun t0 ht0 => by
          by_cases e : t0 = t
          · subst e; rw [if_pos t2, upd_at]
          · rw [upd_ne e, if_neg (by rw [t2]; exact fun q => e ((nI_eq (by omega) (by omega)).mp q).symm)])
        obtain ⟨h', g1, g2, g3⟩ := ih (F i) n (am_si (am_si h 113 i (h 113 i + 1)) 127 t (us_max (h 127 t) (h 113 i + 1))) (by omega) (by omega) (hF i (by omega)) (fun j hj => by rw [am_si_ne (by decide), am_si_ne (by decide), am_si_ne (by decide), am_si_ne (by decide)]; exact h4 j hj) (by rw [am_si_ne (show 113 ≠ 127 by decide), am_si_self, am_si_self, am_si_ne (show 127 ≠ 113 by decide)]; exact r1)
        refine ⟨h', fun c z1 z2 => by rw [g1 c z1 z2, am_si_ne z2, am_si_ne z1], g2, fun r hr => ?_⟩
        rw [t2] at q1
        have mx : (if h 127 t < h 113 i + 1 then h 113 i + 1 else h 127 t) = us_max (h 127 t) (h 113 i + 1) := rfl
        rw [ht_82_1, ch_82_1]; (try simp +decide (disch := omega) only [ni_bF, nI_clamp, nI_add, pk_mul, dc_ltT, dc_ltF, dc_leT, dc_leF, dc_eqF, dc_neT, dn_eq, dn_ne, dn_lt, dn_ge, si_at, si_c, si_k, q_at_nI, q_put_nI, ne_eq, not_false_eq_true, not_true_eq_false, ↓reduceIte, v0_ltT, v0_ltF, v0_gtT, v0_gtF, v0_leT, v0_leF, v0_geT, v0_geF, v0_eqT, v0_eqF, v0_add, v0_dda, v0_mul, v0_lum, v0_sub, v0_bad, v0_cl, v1_ltT, v1_ltF, v1_gtT, v1_gtF, v1_leT, v1_leF, v1_geT, v1_geF, v1_eqT, v1_eqF, v1_add, v1_dda, v1_mul, v1_lum, v1_sub, v1_bad, v1_cl, q1, q2]); rw [ch_82_4]; (try simp +decide (disch := omega) only [ni_bF, nI_clamp, nI_add, pk_mul, dc_ltT, dc_ltF, dc_leT, dc_leF, dc_eqF, dc_neT, dn_eq, dn_ne, dn_lt, dn_ge, si_at, si_c, si_k, q_at_nI, q_put_nI, ne_eq, not_false_eq_true, not_true_eq_false, ↓reduceIte, v0_ltT, v0_ltF, v0_gtT, v0_gtF, v0_leT, v0_leF, v0_geT, v0_geF, v0_eqT, v0_eqF, v0_add, v0_dda, v0_mul, v0_lum, v0_sub, v0_bad, v0_cl, q1, q2]); rw [ht_82_2, ch_82_3]; (try simp +decide (disch := omega) only [ni_bF, nI_clamp, nI_add, pk_mul, dc_ltT, dc_ltF, dc_leT, dc_leF, dc_eqF, dc_neT, dn_eq, dn_ne, dn_lt, dn_ge, si_at, si_c, si_k, q_at_nI, q_put_nI, ne_eq, not_false_eq_true, not_true_eq_false, ↓reduceIte, v0_ltT, v0_ltF, v0_gtT, v0_gtF, v0_leT, v0_leF, v0_geT, v0_geF, v0_eqT, v0_eqF, v0_add, v0_dda, v0_mul, v0_lum, v0_sub, v0_bad, v0_cl, q1, q2]); rw [sk_82_3_12, mx, lp_82_12]
        exact mo_f (Nat.le_refl _) (by repeat (first | exact trivial | refine And.intro rfl ?_)) rfl (g3 r hr)
end FI
