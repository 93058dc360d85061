/-! the class's foreteller: pushArguments, applyDef, visitApplication -/
def ap_ok (A : Nat → Int32) : Nat → Nat → Prop
  | 0, _ => True
  | m + 1, k => k < 4000 ∧ ∃ j, j < 4000 ∧ A k = nI j ∧ ap_ok A m j
def ap_ts (A B : Nat → Int32) (u : Nat → Int32) : Nat → Nat → List (Int32 × Int32 × Int32) → List (Int32 × Int32 × Int32)
  | 0, _, ts => ts
  | m + 1, k, ts => ap_ts A B u m (A k).toNatClampNeg ((1, B k, u m) :: ts)
def ap_h (K A : Nat → Int32) : Nat → Nat → Nat → Nat → Prop
  | 0, k, _, h => k = h ∧ K k ≠ 9 ∧ k < 4000
  | m + 1, k, q, h => K k = 9 ∧ k < 4000 ∧ ∃ j, j < 4000 ∧ A k = nI j ∧ (m = 0 → q = k) ∧ ap_h K A m j q h
theorem ap_hok {K A : Nat → Int32} : ∀ {m k q h : Nat}, ap_h K A m k q h → ap_ok A m k
  | 0, _, _, _, _ => trivial
  | _ + 1, _, _, _, ⟨_, h2, j, h3, h4, _, h5⟩ => ⟨h2, j, h3, h4, ap_hok h5⟩
theorem ap_okle {A : Nat → Int32} : ∀ {m n k : Nat}, n ≤ m → ap_ok A m k → ap_ok A n k
  | _, 0, _, _, _ => trivial
  | 0, n + 1, _, h, _ => absurd h (by omega)
  | m + 1, n + 1, _, h, ⟨h2, j, h3, h4, h5⟩ => ⟨h2, j, h3, h4, ap_okle (by omega) h5⟩
theorem ap_hd {K A : Nat → Int32} : ∀ {m k q h : Nat}, ap_h K A m k q h → K h ≠ 9 ∧ h < 4000
  | 0, _, _, _, ⟨h1, h2, h3⟩ => by subst h1; exact ⟨h2, h3⟩
  | _ + 1, _, _, _, ⟨_, _, _, _, _, _, h5⟩ => ap_hd h5
theorem ap_len (A B u : Nat → Int32) : ∀ (m k : Nat) (ts : List (Int32 × Int32 × Int32)), (ap_ts A B u m k ts).length = ts.length + m
  | 0, _, _ => rfl
  | m + 1, k, ts => by
    unfold ap_ts
    rw [ap_len A B u m, List.length_cons]
    omega
section EA
variable {h0 : Nat → Nat → Int32} {L H : Nat} {Vs : List (Nat → Int32)} {S : Nat → Int32}
theorem ea_paLoop (d : Nat) (x1 : Int32) (sz : Nat) (hsz : sz < 2 ^ 31) (hl : Nat → Nat → Int64) : ∀ (m k i n : Nat) (ts : List (Int32 × Int32 × Int32)) (hi : Nat → Nat → Int32), i + m = sz → m ≤ n → ap_ok (h0 28) m k → ts.length + m ≤ 4000 → fi_S h0 hi L H ts Vs S →
    ∃ hi', am_fwd (am_call tb_P (d + 1)) (am_run (am_call tb_P (d + 1)) tb_r119_0 n) tb_r119_1 5 [(4, .int (nI i)), (3, .int (nI k)), (0, .ref 38), (1, .int x1), (2, .int (nI sz))] [] (pr_S, hi, hl) = some (none, (pr_S, hi', hl)) ∧ fi_S h0 hi' L H (ap_ts (h0 28) (h0 29) (fun _ => 20) m k ts) Vs S := by
  intro m
  induction m with
  | zero =>
    intro k i n ts hi h1 h2 h3 h4 h5
    refine ⟨hi, ?_, h5⟩
    rw [ht_119_1, ch_119_1, if_pos (nI_le (by omega) (by omega)), ht_119_2, ch_119_2]
  | succ m ih =>
    intro k i n ts hi h1 h2 h3 h4 h5
    obtain ⟨hk, j, hj, e, ok⟩ := h3
    obtain ⟨n, rfl⟩ : ∃ n', n = n' + 1 := ⟨n - 1, by omega⟩
    obtain ⟨hi', r1, r2⟩ := ih j (i + 1) n ((1, h0 29 k, 20) :: ts) (fp_push hi ts.length 1 (h0 29 k) 20) (by omega) (by omega) ok (by rw [List.length_cons]; omega) (fi_push h5 _ _ _)
    refine ⟨hi', ?_, ?_⟩
    · rw [ht_119_1, ch_119_1, if_neg (nI_ge (by omega) (by omega)), at_29, ev_rs, ch_119_3, q_at_nI hk (by decide), h5.1 29 (by decide), ea_pushF _ ts.length _ _ _ _ _ h5.2.1 (by omega), ev_rn, ch_119_4, at_28, ev_rs, ch_119_5, sk_119_2_5, q_at_nI hk (by decide), fp_off (c := 28) (by decide), h5.1 28 (by decide), e, nI_1, lp_119_5]
      exact r1
    · unfold ap_ts
      rw [e, nI_clamp (by omega)]
      exact r2
theorem ea_pushArguments (d k m : Nat) (ts : List (Int32 × Int32 × Int32)) (hi : Nat → Nat → Int32) (hl : Nat → Nat → Int64) (h3 : ap_ok (h0 28) m k) (h4 : ts.length + m ≤ 4000) (h5 : fi_S h0 hi L H ts Vs S) :
    ∃ hi', am_call tb_P (d + 2) 119 [.ref 38, .int (nI k), .int (nI m)] (pr_S, hi, hl) = some (none, (pr_S, hi', hl)) ∧ fi_S h0 hi' L H (ap_ts (h0 28) (h0 29) (fun _ => 20) m k ts) Vs S := by
  obtain ⟨hi', r1, r2⟩ := ea_paLoop (h0 := h0) (L := L) (H := H) (Vs := Vs) (S := S) d (nI k) m (by omega) hl m k 0 999999 ts hi (by omega) (by omega) h3 h4 h5
  refine ⟨hi', ?_, r2⟩
  rw [en_119, ht_119_0, ch_119_0]
  exact r1
/-- the USE of an ARGUMENT of a DEF: w parameters, m ARGUMENTS -/
def ap_u (R : Nat → Int32) (e w m u : Nat) (i : Nat) : Int32 := if w ≤ m ∧ i < w then R (8 * e + 4 * u + i) else 20
theorem ea_adLoop (d e w sz u : Nat) (x1 x4 : Int32) (hsz : sz < 2 ^ 31) (hw : w ≤ 4) (he : e < 24) (hu : u < 2) (hl : Nat → Nat → Int64) : ∀ (m k n : Nat) (x9 x10 : Int32) (ts : List (Int32 × Int32 × Int32)) (hi : Nat → Nat → Int32), m ≤ sz → m ≤ n → ap_ok (h0 28) m k → ts.length + m ≤ 4000 → fi_S h0 hi L H ts Vs S →
    ∃ hi', am_fwd (am_call tb_P (d + 1)) (am_run (am_call tb_P (d + 1)) tb_r120_0 n) tb_r120_4 51 [(8, .int (nI m - 1)), (7, .int (nI k)), (10, .int x10), (9, .int x9), (6, .int (nI u)), (5, .int (nI w)), (0, .ref 38), (1, .int x1), (2, .int (nI e)), (3, .int (nI sz)), (4, .int x4)] [] (pr_S, hi, hl) = some (none, (pr_S, hi', hl)) ∧ fi_S h0 hi' L H (ap_ts (h0 28) (h0 29) (ap_u (h0 36) e w sz u) m k ts) Vs S := by
  intro m
  induction m with
  | zero =>
    intro k n x9 x10 ts hi h1 h2 h3 h4 h5
    refine ⟨hi, ?_, h5⟩
    rw [ht_120_4, ch_120_16, if_pos (by decide), sk_120_5_142, ht_120_9, ch_120_17]
  | succ m ih =>
    intro k n x9 x10 ts hi h1 h2 h3 h4 h5
    obtain ⟨hk, j, hj, e1, ok⟩ := h3
    obtain ⟨n, rfl⟩ : ∃ n', n = n' + 1 := ⟨n - 1, by omega⟩
    have v : ∀ (y9 y10 : Int32), ∃ hi', am_fwd (am_call tb_P (d + 1)) (am_run (am_call tb_P (d + 1)) tb_r120_0 n) tb_r120_4 51 [(8, .int (nI m - 1)), (7, .int (nI j)), (10, .int y10), (9, .int y9), (6, .int (nI u)), (5, .int (nI w)), (0, .ref 38), (1, .int x1), (2, .int (nI e)), (3, .int (nI sz)), (4, .int x4)] [] (pr_S, fp_push hi ts.length 1 (h0 29 k) (ap_u (h0 36) e w sz u m), hl) = some (none, (pr_S, hi', hl)) ∧ fi_S h0 hi' L H (ap_ts (h0 28) (h0 29) (ap_u (h0 36) e w sz u) (m + 1) k ts) Vs S := by
      intro y9 y10
      obtain ⟨hi', r1, r2⟩ := ih j n y9 y10 ((1, h0 29 k, ap_u (h0 36) e w sz u m) :: ts) (fp_push hi ts.length 1 (h0 29 k) (ap_u (h0 36) e w sz u m)) (by omega) (by omega) ok (by rw [List.length_cons]; omega) (fi_push h5 _ _ _)
      refine ⟨hi', r1, ?_⟩
      unfold ap_ts
      rw [e1, nI_clamp (by omega)]
      exact r2
    have e2 : nI m + (-1) = nI m - 1 := by rw [Int32.sub_eq_add_neg]
    by_cases c1 : sz < w
    · have e3 : ap_u (h0 36) e w sz u m = 20 := if_neg (by omega)
      obtain ⟨hi', r1, r2⟩ := v 0 20
      refine ⟨hi', ?_, r2⟩
      rw [e3] at r1
      rw [ht_120_4, ch_120_16, nI_pred, if_neg (nI_pos (by omega)), if_pos (nI_lt c1 (by omega)), ht_120_5, ch_120_18, ht_120_6, ch_120_19, if_pos rfl, ht_120_7, ch_120_20, ht_120_8, ch_120_22, at_29, ev_rs, ch_120_13, q_at_nI hk (by decide), h5.1 29 (by decide), ea_pushF _ ts.length _ _ _ _ _ h5.2.1 (by omega), ev_rn, ch_120_14, at_28, ev_rs, ch_120_15, sk_120_9_51, q_at_nI hk (by decide), fp_off (c := 28) (by decide), h5.1 28 (by decide), e1, e2, lp_120_51]
      exact r1
    · by_cases c2 : w ≤ m
      · have e3 : ap_u (h0 36) e w sz u m = 20 := if_neg (by omega)
        obtain ⟨hi', r1, r2⟩ := v 0 20
        refine ⟨hi', ?_, r2⟩
        rw [e3] at r1
        rw [ht_120_4, ch_120_16, nI_pred, if_neg (nI_pos (by omega)), if_neg (nI_nlt (by omega) (by omega)), if_pos (nI_le c2 (by omega)), ht_120_5, ch_120_18, ht_120_6, ch_120_19, if_pos rfl, ht_120_7, ch_120_20, ht_120_8, ch_120_22, at_29, ev_rs, ch_120_13, q_at_nI hk (by decide), h5.1 29 (by decide), ea_pushF _ ts.length _ _ _ _ _ h5.2.1 (by omega), ev_rn, ch_120_14, at_28, ev_rs, ch_120_15, sk_120_9_51, q_at_nI hk (by decide), fp_off (c := 28) (by decide), h5.1 28 (by decide), e1, e2, lp_120_51]
        exact r1
      · have e3 : ap_u (h0 36) e w sz u m = h0 36 (8 * e + 4 * u + m) := if_pos (by omega)
        obtain ⟨hi', r1, r2⟩ := v 1 (h0 36 (8 * e + 4 * u + m))
        refine ⟨hi', ?_, r2⟩
        rw [e3] at r1
        rw [ht_120_4, ch_120_16, nI_pred, if_neg (nI_pos (by omega)), if_neg (nI_nlt (by omega) (by omega)), if_neg (nI_ge (by omega) (by omega)), sk_120_5_74, ht_120_6, ch_120_19, if_neg (by decide), ea_rowIndex _ _ _ _ _ _, ev_rs, ch_120_21, at_36, ev_rs, ch_120_23, sk_120_7_101, ht_120_8, ch_120_22, at_29, ev_rs, ch_120_13, lk_ri, q_at_nI (show 8 * e + 4 * u + m < 192 by omega) (by decide), h5.1 36 (by decide), q_at_nI hk (by decide), h5.1 29 (by decide), ea_pushF _ ts.length _ _ _ _ _ h5.2.1 (by omega), ev_rn, ch_120_14, at_28, ev_rs, ch_120_15, sk_120_9_51, q_at_nI hk (by decide), fp_off (c := 28) (by decide), h5.1 28 (by decide), e1, e2, lp_120_51]
        exact r1
theorem ea_adFirst (d e w sz u : Nat) (x1 x4 : Int32) (hsz : sz + 1 < 2 ^ 31) (hw : w ≤ 4) (he : e < 24) (hu : u < 2) (hl : Nat → Nat → Int64) (k n : Nat) (ts : List (Int32 × Int32 × Int32)) (hi : Nat → Nat → Int32) (h2 : sz + 1 ≤ n) (h3 : ap_ok (h0 28) (sz + 1) k) (h4 : ts.length + (sz + 1) ≤ 4000) (h5 : fi_S h0 hi L H ts Vs S) :
    ∃ hi', am_fwd (am_call tb_P (d + 1)) (am_run (am_call tb_P (d + 1)) tb_r120_0 n) tb_r120_4 51 [(8, .int (nI (sz + 1) - 1)), (7, .int (nI k)), (6, .int (nI u)), (5, .int (nI w)), (0, .ref 38), (1, .int x1), (2, .int (nI e)), (3, .int (nI (sz + 1))), (4, .int x4)] [] (pr_S, hi, hl) = some (none, (pr_S, hi', hl)) ∧ fi_S h0 hi' L H (ap_ts (h0 28) (h0 29) (ap_u (h0 36) e w (sz + 1) u) (sz + 1) k ts) Vs S := by
  obtain ⟨hk, j, hj, e1, ok⟩ := h3
  obtain ⟨n, rfl⟩ : ∃ n', n = n' + 1 := ⟨n - 1, by omega⟩
  have v : ∀ (y9 y10 : Int32), ∃ hi', am_fwd (am_call tb_P (d + 1)) (am_run (am_call tb_P (d + 1)) tb_r120_0 n) tb_r120_4 51 [(8, .int (nI sz - 1)), (7, .int (nI j)), (10, .int y10), (9, .int y9), (6, .int (nI u)), (5, .int (nI w)), (0, .ref 38), (1, .int x1), (2, .int (nI e)), (3, .int (nI (sz + 1))), (4, .int x4)] [] (pr_S, fp_push hi ts.length 1 (h0 29 k) (ap_u (h0 36) e w (sz + 1) u sz), hl) = some (none, (pr_S, hi', hl)) ∧ fi_S h0 hi' L H (ap_ts (h0 28) (h0 29) (ap_u (h0 36) e w (sz + 1) u) (sz + 1) k ts) Vs S := by
    intro y9 y10
    obtain ⟨hi', r1, r2⟩ := ea_adLoop (h0 := h0) (L := L) (H := H) (Vs := Vs) (S := S) d e w (sz + 1) u x1 x4 (by omega) hw he hu hl sz j n y9 y10 ((1, h0 29 k, ap_u (h0 36) e w (sz + 1) u sz) :: ts) (fp_push hi ts.length 1 (h0 29 k) (ap_u (h0 36) e w (sz + 1) u sz)) (by omega) (by omega) ok (by rw [List.length_cons]; omega) (fi_push h5 _ _ _)
    refine ⟨hi', r1, ?_⟩
    unfold ap_ts
    rw [e1, nI_clamp (by omega)]
    exact r2
  have e2 : nI sz + (-1) = nI sz - 1 := by rw [Int32.sub_eq_add_neg]
  by_cases c1 : sz + 1 < w
  · have e3 : ap_u (h0 36) e w (sz + 1) u sz = 20 := if_neg (by omega)
    obtain ⟨hi', r1, r2⟩ := v 0 20
    refine ⟨hi', ?_, r2⟩
    rw [e3] at r1
    rw [ht_120_4, ch_120_5, nI_pred, if_neg (nI_pos (by omega)), if_pos (nI_lt c1 (by omega)), ht_120_5, ch_120_7, ht_120_6, ch_120_8, if_pos rfl, ht_120_7, ch_120_9, ht_120_8, ch_120_11, at_29, ev_rs, ch_120_13, q_at_nI hk (by decide), h5.1 29 (by decide), ea_pushF _ ts.length _ _ _ _ _ h5.2.1 (by omega), ev_rn, ch_120_14, at_28, ev_rs, ch_120_15, sk_120_9_51, q_at_nI hk (by decide), fp_off (c := 28) (by decide), h5.1 28 (by decide), e1, e2, lp_120_51]
    exact r1
  · by_cases c2 : w ≤ sz
    · have e3 : ap_u (h0 36) e w (sz + 1) u sz = 20 := if_neg (by omega)
      obtain ⟨hi', r1, r2⟩ := v 0 20
      refine ⟨hi', ?_, r2⟩
      rw [e3] at r1
      rw [ht_120_4, ch_120_5, nI_pred, if_neg (nI_pos (by omega)), if_neg (nI_nlt (by omega) (by omega)), if_pos (nI_le c2 (by omega)), ht_120_5, ch_120_7, ht_120_6, ch_120_8, if_pos rfl, ht_120_7, ch_120_9, ht_120_8, ch_120_11, at_29, ev_rs, ch_120_13, q_at_nI hk (by decide), h5.1 29 (by decide), ea_pushF _ ts.length _ _ _ _ _ h5.2.1 (by omega), ev_rn, ch_120_14, at_28, ev_rs, ch_120_15, sk_120_9_51, q_at_nI hk (by decide), fp_off (c := 28) (by decide), h5.1 28 (by decide), e1, e2, lp_120_51]
      exact r1
    · have e3 : ap_u (h0 36) e w (sz + 1) u sz = h0 36 (8 * e + 4 * u + sz) := if_pos (by omega)
      obtain ⟨hi', r1, r2⟩ := v 1 (h0 36 (8 * e + 4 * u + sz))
      refine ⟨hi', ?_, r2⟩
      rw [e3] at r1
      rw [ht_120_4, ch_120_5, nI_pred, if_neg (nI_pos (by omega)), if_neg (nI_nlt (by omega) (by omega)), if_neg (nI_ge (by omega) (by omega)), sk_120_5_74, ht_120_6, ch_120_8, if_neg (by decide), ea_rowIndex _ _ _ _ _ _, ev_rs, ch_120_10, at_36, ev_rs, ch_120_12, sk_120_7_101, ht_120_8, ch_120_11, at_29, ev_rs, ch_120_13, lk_ri, q_at_nI (show 8 * e + 4 * u + sz < 192 by omega) (by decide), h5.1 36 (by decide), q_at_nI hk (by decide), h5.1 29 (by decide), ea_pushF _ ts.length _ _ _ _ _ h5.2.1 (by omega), ev_rn, ch_120_14, at_28, ev_rs, ch_120_15, sk_120_9_51, q_at_nI hk (by decide), fp_off (c := 28) (by decide), h5.1 28 (by decide), e1, e2, lp_120_51]
      exact r1
/-- what applyDef leaves waiting -/
def ap_def (A B R : Nat → Int32) (e w m : Nat) (D : Int32) (k : Nat) (ts : List (Int32 × Int32 × Int32)) : List (Int32 × Int32 × Int32) := if m < w ∧ D = 0 then ts else ap_ts A B (ap_u R e w m (if m = w ∧ D = 0 then 0 else 1)) m k ts
theorem ea_applyDef (d e w sz k : Nat) (D : Int32) (hw : w ≤ 4) (he : e < 24) (hl : Nat → Nat → Int64) (ts : List (Int32 × Int32 × Int32)) (hi : Nat → Nat → Int32) (h3 : ap_ok (h0 28) (sz + 1) k) (h4 : ts.length + (sz + 1) ≤ 4000) (h5 : fi_S h0 hi L H ts Vs S) (h6 : h0 20 e = nI w) :
    ∃ hi', am_call tb_P (d + 2) 120 [.ref 38, .int (nI k), .int (nI e), .int (nI (sz + 1)), .int D] (pr_S, hi, hl) = some (none, (pr_S, hi', hl)) ∧ fi_S h0 hi' L H (ap_def (h0 28) (h0 29) (h0 36) e w (sz + 1) D k ts) Vs S := by
  unfold ap_def
  by_cases c1 : sz + 1 < w ∧ D = 0
  · rw [if_pos c1]
    refine ⟨hi, ?_, h5⟩
    rw [en_120, ht_120_0, ch_120_0, at_20, ev_rs, ch_120_1, q_at_nI he (by decide), h5.1 20 (by decide), h6, if_neg (nI_ge c1.1 (by omega)), if_neg (fun h => h c1.2)]
  · rw [if_neg c1]
    by_cases c2 : sz + 1 = w ∧ D = 0
    · rw [if_pos c2]
      obtain ⟨hi', r1, r2⟩ := ea_adFirst (h0 := h0) (L := L) (H := H) (Vs := Vs) (S := S) d e w sz 0 (nI k) D (by omega) hw he (by omega) hl k 999999 ts hi (by omega) h3 h4 h5
      refine ⟨hi', ?_, r2⟩
      rw [en_120, ht_120_0, ch_120_0, at_20, ev_rs, ch_120_1, q_at_nI he (by decide), h5.1 20 (by decide), h6, if_pos (nI_le (by omega) (by omega)), ht_120_1, ch_120_2, if_neg (fun h => h (by rw [c2.1])), if_neg (fun h => h c2.2), sk_120_2_41, ht_120_3, ch_120_4]
      exact r1
    · rw [if_neg c2]
      obtain ⟨hi', r1, r2⟩ := ea_adFirst (h0 := h0) (L := L) (H := H) (Vs := Vs) (S := S) d e w sz 1 (nI k) D (by omega) hw he (by omega) hl k 999999 ts hi (by omega) h3 h4 h5
      refine ⟨hi', ?_, r2⟩
      by_cases c3 : w ≤ sz + 1
      · by_cases c4 : sz + 1 = w
        · rw [en_120, ht_120_0, ch_120_0, at_20, ev_rs, ch_120_1, q_at_nI he (by decide), h5.1 20 (by decide), h6, if_pos (nI_le c3 (by omega)), ht_120_1, ch_120_2, if_neg (fun h => h (by rw [c4])), if_pos (fun h => c2 ⟨c4, h⟩), ht_120_2, ch_120_3, ht_120_3, ch_120_4]
          exact r1
        · rw [en_120, ht_120_0, ch_120_0, at_20, ev_rs, ch_120_1, q_at_nI he (by decide), h5.1 20 (by decide), h6, if_pos (nI_le c3 (by omega)), ht_120_1, ch_120_2, if_pos (fun h => c4 ((nI_eq (by omega) (by omega)).mp h)), ht_120_2, ch_120_3, ht_120_3, ch_120_4]
          exact r1
      · rw [en_120, ht_120_0, ch_120_0, at_20, ev_rs, ch_120_1, q_at_nI he (by decide), h5.1 20 (by decide), h6, if_neg (nI_ge (by omega) (by omega)), if_pos (fun h => c1 ⟨by omega, h⟩), ht_120_1, ch_120_2, if_pos (fun h => c3 (by rw [(nI_eq (by omega) (by omega)).mp h]; omega)), ht_120_2, ch_120_3, ht_120_3, ch_120_4]
        exact r1
end EA
