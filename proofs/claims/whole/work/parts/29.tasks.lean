/-! the class's foreteller: the other tasks -/
section EA
variable {h0 : Nat → Nat → Int32} {L H : Nat} {hl : Nat → Nat → Int64} {Vs : List (Nat → Int32)} {V : Nat → Int32} {S : Nat → Int32} {ts : List (Int32 × Int32 × Int32)}
theorem fi_new {hi ho : Nat → Nat → Int32} {Vs1 : List (Nat → Int32)} {V' : Nat → Int32} (hH : H ≤ 200) (s : fi_S h0 hi L H ts Vs1 S) (g : fi_L hi L H Vs) (r2 : ho 39 1 = nI Vs.length) (r3 : ∀ c x, ¬ (c = 39 ∧ x = 1) → ¬ (c = 40 ∧ 200 * Vs.length + L ≤ x ∧ x < 200 * Vs.length + H) → ho c x = hi c x) (r4 : ∀ t, L ≤ t → t < H → ho 40 (200 * Vs.length + t) = V' t) : fi_S h0 ho L H ts (V' :: Vs) S := by
  refine fi_lay s (fun c x q1 q2 q3 => r3 c x q3 (fun e => q1 e.1)) ?_ ⟨r4, fi_Lf hH Vs (fun x hx => r3 _ _ (fun e => absurd e.1 (by decide)) (by omega)) g⟩ (fun t ht => (r3 _ _ (fun e => absurd e.1 (by decide)) (fun e => absurd e.1 (by decide))).trans (s.2.2.2.2.2.2.2 t ht))
  rw [r2, List.length_cons, nI_1]
theorem fv_lam4 {k t : Nat} (hH : H ≤ 200) (hLH : L ≤ H) (hk : k < 4000) (hlen : ts.length + 3 ≤ 4000) (hV : Vs.length + 1 < 82) (h : h0 26 k = 4) (h2 : h0 27 k = nI t) (ht : t < 200) : fi_V h0 L H hl k 4 ts (V :: Vs) S ((0, h0 28 k, 4) :: (4, nI k, 0) :: (8, nI k, 0) :: ts) ((fun _ => 0) :: V :: Vs) (fi_u S t (us_max (S t) 2)) := by
  intro d hi s
  obtain ⟨ho, r1, r2, r3, r4⟩ := ea_visitLam4 d ts.length k t Vs.length L H hi hl s.2.1 (by omega) hk ht (by rw [s.1 27 (by decide)]; exact h2) (fi_top s) hV s.2.2.2.2.1 s.2.2.2.2.2.1 hH hLH
  have s1 := fi_seenF hH s ht 2
  have s2 : fi_S h0 ho L H ts ((fun _ => 0) :: V :: Vs) (fi_u S t (us_max (S t) 2)) := fi_new hH s1 s1.2.2.2.2.2.2.1 r2 r3 r4
  refine ⟨_, ?_, fi_push (fi_push (fi_push s2 8 (nI k) 0) 4 (nI k) 0) 0 (h0 28 k) 4⟩
  rw [en_111, ht_111_0, ch_111_0, at_26, ev_rs, ch_111_1, q_at_nI hk (by decide), s.1 26 (by decide), h, if_neg (by decide), if_neg (by decide), if_neg (by decide), if_pos rfl, sk_111_1_94, ht_111_3, ch_111_5, r1, ev_rn, ch_111_13, sk_111_4_212, ht_111_9, ch_111_3, s.1 28 (by decide)]
  rfl
theorem fv_app {k : Nat} {D : Int32} {ts' : List (Int32 × Int32 × Int32)} {S' : Nat → Int32} (hk : k < 4000) (h : h0 26 k = 9) (p : ∀ (d : Nat) (hi : Nat → Nat → Int32), fi_S h0 hi L H ts Vs S → ∃ hi', am_call tb_P (d + 3) 117 [.ref 38, .int (nI k), .int D] (pr_S, hi, hl) = some (none, (pr_S, hi', hl)) ∧ fi_S h0 hi' L H ts' Vs S') : fi_V h0 L H hl k D ts Vs S ts' Vs S' := by
  intro d hi s
  obtain ⟨hi', r1, r2⟩ := p d hi s
  refine ⟨hi', ?_, r2⟩
  rw [en_111, ht_111_0, ch_111_0, at_26, ev_rs, ch_111_1, q_at_nI hk (by decide), s.1 26 (by decide), h, if_neg (by decide), if_neg (by decide), if_neg (by decide), if_neg (by decide), if_neg (by decide), if_neg (by decide), if_neg (by decide), if_neg (by decide), if_pos rfl, sk_111_1_203, ht_111_8, ch_111_10, r1, ev_rn, ch_111_18, ht_111_9, ch_111_3]
/-! ARGUMENT -/
theorem ea_argue0 (d k : Nat) (hi : Nat → Nat → Int32) (hl : Nat → Nat → Int64) : am_call tb_P (d + 1) 112 [.ref 38, .int (nI k), .int 0] (pr_S, hi, hl) = some (none, (pr_S, hi, hl)) := by
  rw [en_112, ht_112_0, ch_112_0, if_neg (fun h => h rfl)]
def fa_ts (K : Nat → Int32) (k : Nat) (u : Int32) (ts : List (Int32 × Int32 × Int32)) : List (Int32 × Int32 × Int32) := if u = 0 ∨ K k = 1 then ts else (0, nI k, u &&& 7) :: ts
def fa_V (K M : Nat → Int32) (k : Nat) (u : Int32) (V : Nat → Int32) : Nat → Int32 := if u ≠ 0 ∧ K k = 1 then fi_u V (M k).toNatClampNeg (us_both (V (M k).toNatClampNeg) u) else V
theorem fi_argue {k : Nat} {u : Int32} {hi : Nat → Nat → Int32} (d : Nat) (hH : H ≤ 200) (hk : k < 4000) (hV : Vs.length < 82) (hlen : ts.length < 4000) (hM : h0 26 k = 1 → ∃ t, h0 27 k = nI t ∧ L ≤ t ∧ t < H) (s : fi_S h0 hi L H ts (V :: Vs) S) : ∃ hi', am_call tb_P (d + 3) 112 [.ref 38, .int (nI k), .int u] (pr_S, hi, hl) = some (none, (pr_S, hi', hl)) ∧ fi_S h0 hi' L H (fa_ts (h0 26) k u ts) (fa_V (h0 26) (h0 27) k u V :: Vs) S := by
  unfold fa_ts fa_V
  by_cases c : u = 0
  · subst c
    rw [if_pos (Or.inl rfl), if_neg (fun e => e.1 rfl)]
    exact ⟨hi, ea_argue0 _ _ _ _, s⟩
  by_cases c2 : h0 26 k = 1
  · rw [if_pos (Or.inr c2), if_pos ⟨c, c2⟩]
    obtain ⟨t, h1, h2, h3⟩ := hM c2
    have e := s.2.2.2.2.2.2.1.1 t h2 h3
    rw [h1, nI_clamp (by omega)]
    refine ⟨_, ?_, fi_setTop hH s (t := t) (by omega) (us_both (V t) u)⟩
    rw [ea_argueThing d Vs.length k t u hi hl (fi_top s) hV hk (by rw [s.1 26 (by decide)]; exact c2) (by rw [s.1 27 (by decide)]; exact h1) (by omega), if_neg c]
    unfold fp_add
    rw [e]
  · rw [if_neg (fun e => e.elim c c2), if_neg (fun e => c2 e.2)]
    refine ⟨_, ?_, fi_push s 0 (nI k) (u &&& 7)⟩
    rw [ea_argue (d + 1) ts.length k u hi hl s.2.1 hlen hk (by rw [s.1 26 (by decide)]; exact c2), if_neg c]
theorem fp_arg {k : Nat} {u : Int32} (hH : H ≤ 200) (hk : k < 4000) (hV : Vs.length < 82) (hlen : ts.length < 4000) (hM : h0 26 k = 1 → ∃ t, h0 27 k = nI t ∧ L ≤ t ∧ t < H) : fi_P h0 L H hl 1 k u ts (V :: Vs) S (fa_ts (h0 26) k u ts) (fa_V (h0 26) (h0 27) k u V :: Vs) S := by
  intro d hi s
  obtain ⟨hi', r1, r2⟩ := fi_argue (hl := hl) (u := u) (d + 1) hH hk hV hlen hM s
  refine ⟨hi', ?_, r2⟩
  rw [en_110, ht_110_0, ch_110_0, at_27, ev_rs, ch_110_1, if_neg (by decide), if_pos rfl, sk_110_1_69, ht_110_2, ch_110_3, r1, ev_rn, ch_110_12, sk_110_3_226, ht_110_12, ch_110_20]
/-! what is taken out -/
def fi_m (S : Nat → Int32) (t : Nat) (u : Int32) : Nat → Int32 := fi_u S t (us_max (S t) (u >>> (3 &&& 31)))
theorem fi_take {t : Nat} {hi : Nat → Nat → Int32} (d : Nat) (hH : H ≤ 200) (hV : Vs.length < 82) (ht : L ≤ t ∧ t < H) (s : fi_S h0 hi L H ts (V :: Vs) S) : ∃ hi', am_call tb_P (d + 3) 121 [.ref 38, .int (nI t)] (pr_S, hi, hl) = some (some (.int (V t)), (pr_S, hi', hl)) ∧ fi_S h0 hi' L H ts (fi_u V t 0 :: Vs) (fi_m S t (V t)) := by
  have e := s.2.2.2.2.2.2.1.1 t ht.1 ht.2
  have e2 := s.2.2.2.2.2.2.2 t (by omega)
  refine ⟨_, ?_, fi_setSeen hH (fi_setTop hH s (t := t) (by omega) 0) t (us_max (S t) (V t >>> (3 &&& 31)))⟩
  rw [ea_takeOut d Vs.length t hi hl (fi_top s) hV (by omega), e, e2]
theorem fp_let {k t : Nat} {D : Int32} (hH : H ≤ 200) (hk : k < 4000) (hV : Vs.length < 82) (hlen : ts.length < 4000) (h1 : h0 27 k = nI t) (ht : L ≤ t ∧ t < H) : fi_P h0 L H hl 2 k D ts (V :: Vs) S (if V t = 0 then ts else (0, h0 28 k, V t &&& 7) :: ts) (fi_u V t 0 :: Vs) (fi_m S t (V t)) := by
  intro d hi s
  obtain ⟨hj, r1, r2⟩ := fi_take (hl := hl) (d + 1) hH hV ht s
  have p := ea_afterLet (d + 2) ts.length k (V t) hj hl r2.2.1 hlen hk
  by_cases c : V t = 0
  · rw [if_pos c] at p ⊢
    refine ⟨hj, ?_, r2⟩
    rw [en_110, ht_110_0, ch_110_0, at_27, ev_rs, ch_110_1, q_at_nI hk (by decide), s.1 27 (by decide), h1, if_neg (by decide), if_neg (by decide), if_pos rfl, sk_110_1_78, ht_110_3, ch_110_4, r1, ev_rs, ch_110_13, p, ev_rn, ch_110_21, sk_110_4_226, ht_110_12, ch_110_20]
  · rw [if_neg c] at p ⊢
    refine ⟨_, ?_, fi_push r2 0 (h0 28 k) (V t &&& 7)⟩
    rw [r2.1 28 (by decide)] at p
    rw [en_110, ht_110_0, ch_110_0, at_27, ev_rs, ch_110_1, q_at_nI hk (by decide), s.1 27 (by decide), h1, if_neg (by decide), if_neg (by decide), if_pos rfl, sk_110_1_78, ht_110_3, ch_110_4, r1, ev_rs, ch_110_13, p, ev_rn, ch_110_21, sk_110_4_226, ht_110_12, ch_110_20]
theorem fp_split {k t : Nat} {D : Int32} (hH : H ≤ 200) (hk : k < 4000) (hV : Vs.length < 82) (hlen : ts.length < 4000) (h1 : h0 27 k = nI t) (ht : L ≤ t ∧ t + 1 < H) : fi_P h0 L H hl 3 k D ts (V :: Vs) S ((0, h0 28 k, if V t + V (t + 1) = 0 then 0 else 4) :: ts) (fi_u (fi_u V t 0) (t + 1) 0 :: Vs) (fi_m (fi_m S t (V t)) (t + 1) (V (t + 1))) := by
  intro d hi s
  obtain ⟨hj, r1, r2⟩ := fi_take (hl := hl) (d + 1) hH hV ⟨ht.1, by omega⟩ s
  obtain ⟨hk2, r3, r4⟩ := fi_take (hl := hl) (t := t + 1) (d + 1) hH hV ⟨by omega, ht.2⟩ r2
  have e : fi_u V t 0 (t + 1) = V (t + 1) := if_neg (by omega)
  rw [e] at r3 r4
  refine ⟨_, ?_, fi_push r4 0 (h0 28 k) _⟩
  by_cases c : V t + V (t + 1) = 0
  · rw [if_pos c]
    rw [en_110, ht_110_0, ch_110_0, at_27, ev_rs, ch_110_1, q_at_nI hk (by decide), s.1 27 (by decide), h1, if_neg (by decide), if_neg (by decide), if_neg (by decide), if_pos rfl, sk_110_1_92, ht_110_4, ch_110_5, r1, ev_rs, ch_110_14, nI_1, r3, ev_rs, ch_110_22, at_28, ev_rs, ch_110_24, q_at_nI hk (by decide), r4.1 28 (by decide), if_neg (fun x => x c), sk_110_5_132, ht_110_6, ch_110_27, ea_pushF _ ts.length _ _ _ _ _ r4.2.1 hlen, ev_rn, ch_110_29, sk_110_7_226, ht_110_12, ch_110_31]
  · rw [if_neg c]
    rw [en_110, ht_110_0, ch_110_0, at_27, ev_rs, ch_110_1, q_at_nI hk (by decide), s.1 27 (by decide), h1, if_neg (by decide), if_neg (by decide), if_neg (by decide), if_pos rfl, sk_110_1_92, ht_110_4, ch_110_5, r1, ev_rs, ch_110_14, nI_1, r3, ev_rs, ch_110_22, at_28, ev_rs, ch_110_24, q_at_nI hk (by decide), r4.1 28 (by decide), if_pos c, ht_110_5, ch_110_26, ht_110_6, ch_110_27, ea_pushF _ ts.length _ _ _ _ _ r4.2.1 hlen, ev_rn, ch_110_29, sk_110_7_226, ht_110_12, ch_110_31]
theorem fp_lam {k t : Nat} {D : Int32} (hH : H ≤ 200) (hk : k < 4000) (hV : Vs.length < 82) (h1 : h0 27 k = nI t) (ht : L ≤ t ∧ t + 1 < H) : fi_P h0 L H hl 4 k D ts (V :: Vs) S ts (fi_u V (t + 1) 0 :: Vs) (fi_m S (t + 1) (V (t + 1))) := by
  intro d hi s
  obtain ⟨hj, r1, r2⟩ := fi_take (hl := hl) (t := t + 1) (d + 1) hH hV ⟨by omega, ht.2⟩ s
  refine ⟨hj, ?_, r2⟩
  rw [en_110, ht_110_0, ch_110_0, at_27, ev_rs, ch_110_1, q_at_nI hk (by decide), s.1 27 (by decide), h1, if_neg (by decide), if_neg (by decide), if_neg (by decide), if_neg (by decide), if_pos rfl, sk_110_1_138, ht_110_7, ch_110_6, nI_1, r1, ev_rs, ch_110_15, sk_110_8_226, ht_110_12, ch_110_20]
theorem fp_call {q h t b : Nat} {D : Int32} (hH : H ≤ 200) (hq : q < 4000) (hh : h < 4000) (hb : b < 4000) (hV : Vs.length < 82) (hlen : ts.length < 4000) (h1 : h0 28 q = nI h) (h2 : h0 27 h = nI t) (h3 : h0 29 q = nI b) (ht : L ≤ t ∧ t + 1 < H) (hM : h0 26 b = 1 → ∃ t, h0 27 b = nI t ∧ L ≤ t ∧ t < H) : fi_P h0 L H hl 5 q D ts (V :: Vs) S (fa_ts (h0 26) b (V (t + 1)) ts) (fa_V (h0 26) (h0 27) b (V (t + 1)) (fi_u V (t + 1) 0) :: Vs) (fi_m S (t + 1) (V (t + 1))) := by
  intro d hi s
  obtain ⟨hj, r1, r2⟩ := fi_take (hl := hl) (t := t + 1) (d + 1) hH hV ⟨by omega, ht.2⟩ s
  obtain ⟨hk, r3, r4⟩ := fi_argue (hl := hl) (u := V (t + 1)) (d + 1) hH hb hV hlen hM r2
  refine ⟨hk, ?_, r4⟩
  rw [en_110, ht_110_0, ch_110_0, at_27, ev_rs, ch_110_1, q_at_nI hq (by decide), if_neg (by decide), if_neg (by decide), if_neg (by decide), if_neg (by decide), if_neg (by decide), if_pos rfl, sk_110_1_150, ht_110_8, ch_110_7, at_28, ev_rs, ch_110_16, at_27, ev_rs, ch_110_23, at_29, ev_rs, ch_110_25, q_at_nI hq (by decide), s.1 28 (by decide), h1, q_at_nI hh (by decide), s.1 27 (by decide), h2, q_at_nI hq (by decide), s.1 29 (by decide), h3, nI_1, r1, ev_rs, ch_110_28, r3, ev_rn, ch_110_30, sk_110_9_226, ht_110_12, ch_110_32]
theorem fp_open {k : Nat} {D : Int32} (hH : H ≤ 200) (hLH : L ≤ H) (hV : Vs.length < 82) : fi_P h0 L H hl 6 k D ts Vs S ts ((fun _ => 0) :: Vs) S := by
  intro d hi s
  obtain ⟨ho, r1, r2, r3, r4⟩ := ea_openLayer (d + 2) Vs.length L H hV hH hLH hi hl s.2.2.2.1 s.2.2.2.2.1 s.2.2.2.2.2.1
  refine ⟨ho, ?_, fi_new hH s s.2.2.2.2.2.2.1 r2 r3 r4⟩
  rw [en_110, ht_110_0, ch_110_0, at_27, ev_rs, ch_110_1, if_neg (by decide), if_neg (by decide), if_neg (by decide), if_neg (by decide), if_neg (by decide), if_neg (by decide), if_pos rfl, sk_110_1_199, ht_110_9, ch_110_8, r1, ev_rn, ch_110_17, sk_110_10_226, ht_110_12, ch_110_20]
theorem fp_either {k : Nat} {D : Int32} {V1 V2 : Nat → Int32} (hH : H ≤ 200) (hLH : L ≤ H) (hV : Vs.length + 2 < 82) : fi_P h0 L H hl 7 k D ts (V2 :: V1 :: V :: Vs) S ts ((fun t => us_both (V t) (us_either (V2 t) (V1 t))) :: Vs) S := by
  intro d hi s
  have g := s.2.2.2.2.2.2.1
  obtain ⟨ho, r1, r2, r3, r4⟩ := ea_closeEither (d + 1) Vs.length L H hV hH hLH hi hl (fi_top s) s.2.2.2.2.1 s.2.2.2.2.2.1
  refine ⟨ho, ?_, fi_new hH s g.2.2.2 r2 r3 (fun t h1 h2 => ?_)⟩
  · rw [en_110, ht_110_0, ch_110_0, at_27, ev_rs, ch_110_1, if_neg (by decide), if_neg (by decide), if_neg (by decide), if_neg (by decide), if_neg (by decide), if_neg (by decide), if_neg (by decide), if_pos rfl, sk_110_1_209, ht_110_10, ch_110_9, r1, ev_rn, ch_110_18, sk_110_11_226, ht_110_12, ch_110_20]
  · rw [r4 t h1 h2, g.2.2.1 t h1 h2]
    have e1 := g.1 t h1 h2
    have e2 := g.2.1 t h1 h2
    simp only [List.length_cons] at e1 e2
    rw [e2, show 200 * (Vs.length + 2) + t = 200 * (Vs.length + 1 + 1) + t from rfl, e1]
theorem fp_many {k : Nat} {D : Int32} {V1 : Nat → Int32} (hH : H ≤ 200) (hLH : L ≤ H) (hV : Vs.length + 1 < 82) : fi_P h0 L H hl 8 k D ts (V1 :: V :: Vs) S ts ((fun t => us_both (V t) (us_many (V1 t))) :: Vs) S := by
  intro d hi s
  have g := s.2.2.2.2.2.2.1
  obtain ⟨ho, r1, r2, r3, r4⟩ := ea_closeMany (d + 1) Vs.length L H hV hH hLH hi hl (fi_top s) s.2.2.2.2.1 s.2.2.2.2.2.1
  refine ⟨ho, ?_, fi_new hH s g.2.2 r2 r3 (fun t h1 h2 => ?_)⟩
  · rw [en_110, ht_110_0, ch_110_0, at_27, ev_rs, ch_110_1, if_neg (by decide), if_neg (by decide), if_neg (by decide), if_neg (by decide), if_neg (by decide), if_neg (by decide), if_neg (by decide), if_neg (by decide), sk_110_1_219, ht_110_11, ch_110_10, r1, ev_rn, ch_110_19, ht_110_12, ch_110_20]
  · rw [r4 t h1 h2, g.2.1 t h1 h2]
    have e1 := g.1 t h1 h2
    simp only [List.length_cons] at e1
    rw [e1]
end EA
