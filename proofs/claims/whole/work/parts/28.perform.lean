/-! the class's foreteller: visit, perform, a turn of foretell, over tasks and layers as lists -/
def fi_V (h0 : Nat → Nat → Int32) (L H : Nat) (hl : Nat → Nat → Int64) (k : Nat) (D : Int32) (ts : List (Int32 × Int32 × Int32)) (Vs : List (Nat → Int32)) (S : Nat → Int32) (ts' : List (Int32 × Int32 × Int32)) (Vs' : List (Nat → Int32)) (S' : Nat → Int32) : Prop := ∀ (d : Nat) (hi : Nat → Nat → Int32), fi_S h0 hi L H ts Vs S → ∃ hi', am_call tb_P (d + 4) 111 [.ref 38, .int (nI k), .int D] (pr_S, hi, hl) = some (none, (pr_S, hi', hl)) ∧ fi_S h0 hi' L H ts' Vs' S'
def fi_P (h0 : Nat → Nat → Int32) (L H : Nat) (hl : Nat → Nat → Int64) (x : Int32) (k : Nat) (D : Int32) (ts : List (Int32 × Int32 × Int32)) (Vs : List (Nat → Int32)) (S : Nat → Int32) (ts' : List (Int32 × Int32 × Int32)) (Vs' : List (Nat → Int32)) (S' : Nat → Int32) : Prop := ∀ (d : Nat) (hi : Nat → Nat → Int32), fi_S h0 hi L H ts Vs S → ∃ hi', am_call tb_P (d + 5) 110 [.ref 38, .int x, .int (nI k), .int D] (pr_S, hi, hl) = some (none, (pr_S, hi', hl)) ∧ fi_S h0 hi' L H ts' Vs' S'
def fi_lp (d n i : Nat) (x1 x2 : Int32) (hi : Nat → Nat → Int32) (hl : Nat → Nat → Int64) : am_R := am_fwd (am_call tb_P (d + 5)) (am_run (am_call tb_P (d + 5)) tb_r108_0 n) tb_r108_1 50 [(3, .int (nI i)), (0, .ref 38), (1, .int x1), (2, .int x2)] [] (pr_S, hi, hl)
/-- m turns lead from one state to another -/
def fi_R (h0 : Nat → Nat → Int32) (L H : Nat) (hl : Nat → Nat → Int64) (m : Nat) (ts : List (Int32 × Int32 × Int32)) (Vs : List (Nat → Int32)) (S : Nat → Int32) (ts' : List (Int32 × Int32 × Int32)) (Vs' : List (Nat → Int32)) (S' : Nat → Int32) : Prop := ∀ (d n i : Nat) (x1 x2 : Int32) (hi : Nat → Nat → Int32), i + m ≤ 100000 → fi_S h0 hi L H ts Vs S → ∃ hi', fi_lp d (n + m) i x1 x2 hi hl = fi_lp d n (i + m) x1 x2 hi' hl ∧ fi_S h0 hi' L H ts' Vs' S'
section EA
variable {h0 : Nat → Nat → Int32} {L H : Nat} {hl : Nat → Nat → Int64} {Vs : List (Nat → Int32)} {V : Nat → Int32} {S : Nat → Int32} {ts : List (Int32 × Int32 × Int32)}
theorem fi_refl : fi_R h0 L H hl 0 ts Vs S ts Vs S := fun _ _ _ _ _ hi _ h => ⟨hi, rfl, h⟩
theorem fi_trans {m m' : Nat} {ts' ts'' : List (Int32 × Int32 × Int32)} {Vs' Vs'' : List (Nat → Int32)} {S' S'' : Nat → Int32} (a : fi_R h0 L H hl m ts Vs S ts' Vs' S') (b : fi_R h0 L H hl m' ts' Vs' S' ts'' Vs'' S'') : fi_R h0 L H hl (m + m') ts Vs S ts'' Vs'' S'' := by
  intro d n i x1 x2 hi h1 h2
  obtain ⟨hj, r1, r2⟩ := a d (n + m') i x1 x2 hi (by omega) h2
  obtain ⟨hk, r3, r4⟩ := b d n (i + m) x1 x2 hj (by omega) r2
  refine ⟨hk, ?_, r4⟩
  rw [show n + (m + m') = n + m' + m by omega, r1, r3, show i + m + m' = i + (m + m') by omega]
theorem fi_turn {x : Int32} {k : Nat} {D : Int32} {ts' : List (Int32 × Int32 × Int32)} {Vs' : List (Nat → Int32)} {S' : Nat → Int32} (hH : H ≤ 200) (hlen : ts.length < 4000) (p : fi_P h0 L H hl x k D ts Vs S ts' Vs' S') : fi_R h0 L H hl 1 ((x, nI k, D) :: ts) Vs S ts' Vs' S' := by
  intro d n i x1 x2 hi h1 h2
  have s := fi_pop hH h2
  obtain ⟨hi', r1, r2⟩ := p d _ s
  refine ⟨hi', ?_, r2⟩
  have e1 := h2.2.1
  rw [List.length_cons] at e1
  have t1 : am_si hi 38 7 (nI ts.length) 42 ts.length = x := by rw [am_si_ne (by decide)]; exact h2.2.2.1.1
  have t2 : am_si hi 38 7 (nI ts.length) 43 ts.length = nI k := by rw [am_si_ne (by decide)]; exact h2.2.2.1.2.1
  have t3 : am_si hi 38 7 (nI ts.length) 44 ts.length = D := by rw [am_si_ne (by decide)]; exact h2.2.2.1.2.2.1
  unfold fi_lp
  rw [ht_108_1, ch_108_6, if_neg (li_ge (by omega) (by decide)), e1, if_neg (nI_nle (by omega) (by omega)), at_42, ev_rs, ch_108_8, at_43, ev_rs, ch_108_9, at_44, ev_rs, ch_108_10, nI_pred, s.2.1, q_at_nI hlen (by decide), t1, q_at_nI hlen (by decide), t2, q_at_nI hlen (by decide), t3, r1, ev_rn, ch_108_11, sk_108_2_50, nI_1, lp_108_50]
theorem fi_PV {k : Nat} {D : Int32} {ts' : List (Int32 × Int32 × Int32)} {Vs' : List (Nat → Int32)} {S' : Nat → Int32} (p : fi_V h0 L H hl k D ts Vs S ts' Vs' S') : fi_P h0 L H hl 0 k D ts Vs S ts' Vs' S' := by
  intro d hi h
  obtain ⟨hi', r1, r2⟩ := p d hi h
  refine ⟨hi', ?_, r2⟩
  rw [en_110, ht_110_0, ch_110_0, at_27, ev_rs, ch_110_1, if_pos rfl, ht_110_1, ch_110_2, r1, ev_rn, ch_110_11, sk_110_2_226, ht_110_12, ch_110_20]
/-! a visit, by the kind of the NODE -/
theorem fv_none {k : Nat} {D : Int32} (hk : k < 4000) (h : h0 26 k = 0 ∨ h0 26 k = 2) : fi_V h0 L H hl k D ts Vs S ts Vs S := by
  intro d hi s
  refine ⟨hi, ?_, s⟩
  rcases h with e | e
  · rw [en_111, ht_111_0, ch_111_0, at_26, ev_rs, ch_111_1, q_at_nI hk (by decide), s.1 26 (by decide), e, if_neg (by decide), if_neg (by decide), if_neg (by decide), if_neg (by decide), if_neg (by decide), if_neg (by decide), if_neg (by decide), if_neg (by decide), if_neg (by decide), sk_111_1_212, ht_111_9, ch_111_3]
  · rw [en_111, ht_111_0, ch_111_0, at_26, ev_rs, ch_111_1, q_at_nI hk (by decide), s.1 26 (by decide), e, if_neg (by decide), if_pos rfl, sk_111_1_212, ht_111_9, ch_111_3]
theorem fv_thing {k t : Nat} {D : Int32} (hH : H ≤ 200) (hk : k < 4000) (hV : Vs.length < 82) (h : h0 26 k = 1) (h2 : h0 27 k = nI t) (ht : L ≤ t ∧ t < H) : fi_V h0 L H hl k D ts (V :: Vs) S ts (fi_u V t (us_both (V t) (8 + D)) :: Vs) S := by
  intro d hi s
  have e := s.2.2.2.2.2.2.1.1 t ht.1 ht.2
  refine ⟨_, ?_, fi_setTop hH s (t := t) (by omega) (us_both (V t) (8 + D))⟩
  rw [en_111, ht_111_0, ch_111_0, at_26, ev_rs, ch_111_1, q_at_nI hk (by decide), s.1 26 (by decide), h, if_pos rfl, ht_111_1, ch_111_2, at_27, ev_rs, ch_111_11, q_at_nI hk (by decide), s.1 27 (by decide), h2, ea_addL _ Vs.length t _ _ _ (fi_top s) hV (by omega), ev_rn, ch_111_19, sk_111_2_212, ht_111_9, ch_111_3, e]
theorem fv_pair {k : Nat} {D : Int32} (hk : k < 4000) (hlen : ts.length + 2 ≤ 4000) (h : h0 26 k = 3) : fi_V h0 L H hl k D ts Vs S (if D = 0 then ts else (1, h0 29 k, 20) :: (1, h0 28 k, 20) :: ts) Vs S := by
  intro d hi s
  have p := fun hi2 => ea_visitPair (d + 1) ts.length k D hi hi2 s.2.1 (by omega) hk
  by_cases c : D = 0
  · rw [if_pos c]
    refine ⟨hi, ?_, s⟩
    rw [en_111, ht_111_0, ch_111_0, at_26, ev_rs, ch_111_1, q_at_nI hk (by decide), s.1 26 (by decide), h, if_neg (by decide), if_neg (by decide), if_pos rfl, sk_111_1_85, ht_111_2, ch_111_4, p, if_pos c, ev_rn, ch_111_12, sk_111_3_212, ht_111_9, ch_111_3]
  · rw [if_neg c]
    refine ⟨_, ?_, fi_push (fi_push s 1 (h0 28 k) 20) 1 (h0 29 k) 20⟩
    rw [en_111, ht_111_0, ch_111_0, at_26, ev_rs, ch_111_1, q_at_nI hk (by decide), s.1 26 (by decide), h, if_neg (by decide), if_neg (by decide), if_pos rfl, sk_111_1_85, ht_111_2, ch_111_4, p, if_neg c, ev_rn, ch_111_12, sk_111_3_212, ht_111_9, ch_111_3, s.1 28 (by decide), s.1 29 (by decide)]
    rfl
theorem fv_let {k : Nat} {D : Int32} (hk : k < 4000) (hlen : ts.length + 2 ≤ 4000) (h : h0 26 k = 5) : fi_V h0 L H hl k D ts Vs S ((0, h0 29 k, D) :: (2, nI k, 0) :: ts) Vs S := by
  intro d hi s
  have s1 := fi_push s 2 (nI k) 0
  refine ⟨_, ?_, fi_push s1 0 (h0 29 k) D⟩
  rw [en_111, ht_111_0, ch_111_0, at_26, ev_rs, ch_111_1, q_at_nI hk (by decide), s.1 26 (by decide), h, if_neg (by decide), if_neg (by decide), if_neg (by decide), if_neg (by decide), if_pos rfl, sk_111_1_103, ht_111_4, ch_111_6, ea_pushF _ ts.length _ _ _ _ _ s.2.1 (by omega), ev_rn, ch_111_14, at_29, ev_rs, ch_111_20, q_at_nI hk (by decide), s1.1 29 (by decide), ea_pushF _ (ts.length + 1) _ _ _ _ _ s1.2.1 (by omega), ev_rn, ch_111_23, sk_111_5_212, ht_111_9, ch_111_3]
  rfl
theorem fv_split {k : Nat} {D : Int32} (hk : k < 4000) (hlen : ts.length + 2 ≤ 4000) (h : h0 26 k = 7) : fi_V h0 L H hl k D ts Vs S ((0, h0 29 k, D) :: (3, nI k, 0) :: ts) Vs S := by
  intro d hi s
  have s1 := fi_push s 3 (nI k) 0
  refine ⟨_, ?_, fi_push s1 0 (h0 29 k) D⟩
  rw [en_111, ht_111_0, ch_111_0, at_26, ev_rs, ch_111_1, q_at_nI hk (by decide), s.1 26 (by decide), h, if_neg (by decide), if_neg (by decide), if_neg (by decide), if_neg (by decide), if_neg (by decide), if_neg (by decide), if_pos rfl, sk_111_1_139, ht_111_6, ch_111_8, ea_pushF _ ts.length _ _ _ _ _ s.2.1 (by omega), ev_rn, ch_111_16, at_29, ev_rs, ch_111_21, q_at_nI hk (by decide), s1.1 29 (by decide), ea_pushF _ (ts.length + 1) _ _ _ _ _ s1.2.1 (by omega), ev_rn, ch_111_24, sk_111_7_212, ht_111_9, ch_111_3]
  rfl
theorem fv_op {k : Nat} {D : Int32} (hk : k < 4000) (hlen : ts.length + 2 ≤ 4000) (h : h0 26 k = 8) : fi_V h0 L H hl k D ts Vs S ((0, h0 29 k, 0) :: (0, h0 28 k, 0) :: ts) Vs S := by
  intro d hi s
  have s1 := fi_push s 0 (h0 28 k) 0
  refine ⟨_, ?_, fi_push s1 0 (h0 29 k) 0⟩
  rw [en_111, ht_111_0, ch_111_0, at_26, ev_rs, ch_111_1, q_at_nI hk (by decide), s.1 26 (by decide), h, if_neg (by decide), if_neg (by decide), if_neg (by decide), if_neg (by decide), if_neg (by decide), if_neg (by decide), if_neg (by decide), if_pos rfl, sk_111_1_166, ht_111_7, ch_111_9, at_28, ev_rs, ch_111_17, q_at_nI hk (by decide), s.1 28 (by decide), ea_pushF _ ts.length _ _ _ _ _ s.2.1 (by omega), ev_rn, ch_111_22, at_29, ev_rs, ch_111_25, q_at_nI hk (by decide), s1.1 29 (by decide), ea_pushF _ (ts.length + 1) _ _ _ _ _ s1.2.1 (by omega), ev_rn, ch_111_26, sk_111_8_212, ht_111_9, ch_111_3]
  rfl
theorem fv_if {k : Nat} {D : Int32} (hk : k < 4000) (hlen : ts.length + 6 ≤ 4000) (h : h0 26 k = 6) : fi_V h0 L H hl k D ts Vs S ((0, h0 28 k, 0) :: (6, nI k, 0) :: (0, h0 29 k, D) :: (6, nI k, 0) :: (0, h0 30 k, D) :: (7, nI k, 0) :: ts) Vs S := by
  intro d hi s
  refine ⟨_, ?_, fi_push (fi_push (fi_push (fi_push (fi_push (fi_push s 7 (nI k) 0) 0 (h0 30 k) D) 6 (nI k) 0) 0 (h0 29 k) D) 6 (nI k) 0) 0 (h0 28 k) 0⟩
  rw [en_111, ht_111_0, ch_111_0, at_26, ev_rs, ch_111_1, q_at_nI hk (by decide), s.1 26 (by decide), h, if_neg (by decide), if_neg (by decide), if_neg (by decide), if_neg (by decide), if_neg (by decide), if_pos rfl, sk_111_1_130, ht_111_5, ch_111_7, ea_visitIf _ ts.length k D _ _ s.2.1 (by omega) hk, ev_rn, ch_111_15, sk_111_6_212, ht_111_9, ch_111_3, s.1 28 (by decide), s.1 29 (by decide), s.1 30 (by decide)]
  rfl
theorem fv_lam0 {k : Nat} (hk : k < 4000) (h : h0 26 k = 4) : fi_V h0 L H hl k 0 ts Vs S ts Vs S := by
  intro d hi s
  refine ⟨hi, ?_, s⟩
  rw [en_111, ht_111_0, ch_111_0, at_26, ev_rs, ch_111_1, q_at_nI hk (by decide), s.1 26 (by decide), h, if_neg (by decide), if_neg (by decide), if_neg (by decide), if_pos rfl, sk_111_1_94, ht_111_3, ch_111_5, ea_visitLam0 _ _ _ _, ev_rn, ch_111_13, sk_111_4_212, ht_111_9, ch_111_3]
theorem fi_seenF {hi : Nat → Nat → Int32} (hH : H ≤ 200) (s : fi_S h0 hi L H ts Vs S) {t : Nat} (ht : t < 200) (c : Int32) : fi_S h0 (fp_seen hi t c) L H ts Vs (fi_u S t (us_max (S t) c)) := by
  have e := s.2.2.2.2.2.2.2 t ht
  unfold fp_seen
  rw [e]
  exact fi_setSeen hH s t _
theorem fv_lam1 {k t : Nat} {D : Int32} (hH : H ≤ 200) (hk : k < 4000) (hlen : ts.length + 2 ≤ 4000) (h : h0 26 k = 4) (h2 : h0 27 k = nI t) (ht : t < 200) (hD : D ≠ 0) (hD4 : D ≠ 4) : fi_V h0 L H hl k D ts Vs S ((0, h0 28 k, D - 1) :: (4, nI k, 0) :: ts) Vs (fi_u S t (us_max (S t) 1)) := by
  intro d hi s
  refine ⟨_, ?_, fi_push (fi_push (fi_seenF hH s ht 1) 4 (nI k) 0) 0 (h0 28 k) (D - 1)⟩
  rw [en_111, ht_111_0, ch_111_0, at_26, ev_rs, ch_111_1, q_at_nI hk (by decide), s.1 26 (by decide), h, if_neg (by decide), if_neg (by decide), if_neg (by decide), if_pos rfl, sk_111_1_94, ht_111_3, ch_111_5, ea_visitLam1 _ ts.length k t D _ _ s.2.1 (by omega) hk ht (by rw [s.1 27 (by decide)]; exact h2) hD hD4, ev_rn, ch_111_13, sk_111_4_212, ht_111_9, ch_111_3, s.1 28 (by decide)]
  rfl
end EA
