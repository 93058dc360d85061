/-! what holds between two calls -/
def iv_I (hi : Nat → Nat → Int32) (nd nt nn hf : Nat) (sz L bd st B : Nat → Nat) (N : Nat) : Prop :=
  (pg_I hi nd nt nn hf sz L bd st ∧ pk_I hi nd nn sz L)
  ∧ ((∀ i, hi 36 i ∈ us_codes) ∧ (∀ i, i < 192 → hi 97 i = uk_c (hi 36 i) ∧ hi 98 i = uk_d (hi 36 i)))
  ∧ ((∀ t, t < 200 → hi 41 t ∈ ([0, 1, 2] : List Int32)) ∧ (∀ t, t < 200 → hi 101 t ∈ ([0, 1, 2] : List Int32)))
  ∧ (hi 35 5 = 1 ∨ (hi 35 5 = 0 ∧ ∀ t, t < nt → us_P hi (hi 36) nd sz L bd t (hi 31 t)))
  ∧ (tx_C hi B N ∧ tx_M hi B N)
  ∧ (hi 0 8 = hi 73 28 ∧ hi 0 9 = hi 73 36 ∧ hi 45 2 = hi 73 74 ∧ ∃ w, hi 73 32 = nI w)
  ∧ ((∀ j, j < 4 → hi 72 j = hi 104 j) ∧ (∀ t, t < 200 → hi 47 t = hi 127 t) ∧ (∀ k, k < 7 → hi 46 k = hi 128 k))
def iv_X (hi : Nat → Nat → Int32) (_ : Nat → Nat → Int64) : Prop := ∃ nd nt nn hf sz L bd st B N, iv_I hi nd nt nn hf sz L bd st B N
section IV
variable {hi hj hC m' : Nat → Nat → Int32} {hl : Nat → Nat → Int64} {nd nt nn hf rd N : Nat} {sz L bd st B : Nat → Nat} {R : Nat → Int32}
theorem pk_fr (o : ∀ c, 19 ≤ c → c ≤ 30 → hj c = hi c) (h : pk_I hi nd nn sz L) : pk_I hj nd nn sz L := by
  unfold pk_I at h ⊢
  rw [o 27 (by decide) (by decide), o 26 (by decide) (by decide), o 23 (by decide) (by decide)]
  exact h
theorem us_Mj (o : ∀ c, 19 ≤ c → c ≤ 30 → hj c = hi c) (t : Nat) : ∀ r, us_M hj R bd t r = us_M hi R bd t r
  | 0 => rfl
  | r + 1 => by
    unfold us_M
    rw [us_Mj o t r, o 26 (by decide) (by decide), o 27 (by decide) (by decide), o 28 (by decide) (by decide), o 29 (by decide) (by decide), o 30 (by decide) (by decide), o 20 (by decide) (by decide)]
theorem us_Pj (o : ∀ c, 19 ≤ c → c ≤ 30 → hj c = hi c) {t : Nat} {v : Int32} (h : us_P hi R nd sz L bd t v) : us_P hj R nd sz L bd t v := fun e he l1 l2 => by
  rw [us_Mj o]
  exact h e he l1 l2
theorem us_u (P : pg_I hi nd nt nn hf sz L bd st) {t : Nat} (ht : t < nt) {v w : Int32} (a : us_P hi R nd sz L bd t v) (b : us_P hi R nd sz L bd t w) : v = w := by
  obtain ⟨p1, p2, p3, p4, p5, p6, p7, p8, p9, p10, p11, p12, p13, p14⟩ := P
  obtain ⟨e, he, l1, l2⟩ := pg_of p10 t nd (by omega)
  exact (a e he l1 l2).trans (b e he l1 l2).symm
theorem ra_Nj (o : ∀ c, 19 ≤ c → c ≤ 30 → hj c = hi c) : ra_N hj nd sz L bd = ra_N hi nd sz L bd := by
  unfold ra_N
  rw [o 26 (by decide) (by decide), o 27 (by decide) (by decide), o 28 (by decide) (by decide), o 29 (by decide) (by decide), o 30 (by decide) (by decide), o 20 (by decide) (by decide)]
theorem ra_Kj (o : ∀ c, 19 ≤ c → c ≤ 30 → hj c = hi c) : ∀ (k : Nat) (R : Nat → Int32), ra_K hi nd sz L bd k R → ra_K hj nd sz L bd k R
  | 0, _, h => h
  | k + 1, R, h => by
    unfold ra_K ra_C at h ⊢
    rw [ra_Nj o]
    rcases h with h | ⟨h1, h2⟩
    · exact Or.inl h
    · exact Or.inr ⟨h1, ra_Kj o k _ h2⟩
theorem ra_Ij (o : ∀ c, 19 ≤ c → c ≤ 30 → hj c = hi c) : ∀ (k : Nat) (R : Nat → Int32), ra_I hj nd sz L bd k R = ra_I hi nd sz L bd k R
  | 0, _ => rfl
  | k + 1, R => by
    unfold ra_I
    rw [ra_Nj o, ra_Ij o k]
theorem rd_Cj (o : ∀ c, 19 ≤ c → c ≤ 30 → hj c = hi c) : rd_C hj R sz L bd = rd_C hi R sz L bd := by
  funext r
  unfold rd_C nx_r
  rw [o 26 (by decide) (by decide), o 27 (by decide) (by decide), o 28 (by decide) (by decide), o 29 (by decide) (by decide), o 30 (by decide) (by decide), o 20 (by decide) (by decide)]
theorem fc_cg {c c' : Nat → Prop} {n : Nat} {x : Int32} (e : ∀ r, r < n → (c r ↔ c' r)) (h : fc_R c n x) : fc_R c' n x := by
  rcases h with ⟨a, b⟩ | ⟨r, a, b, d, f⟩
  · exact Or.inl ⟨a, fun r hr z => b r hr ((e r hr).mpr z)⟩
  · exact Or.inr ⟨r, a, b, (e r a).mp d, fun q hq z => f q hq ((e q (by omega)).mpr z)⟩
/-- a reading that failed leaves the half that is the PROGRAM -/
theorem pg_half (P : pg_I hi nd nt nn hf sz L bd st) (o : ∀ c, c = 17 ∨ (19 ≤ c ∧ c ≤ 30) → hj c = hi c) (o7 : hj 73 7 = hi 73 7) (a1 : ∀ c i, 79 ≤ c → c ≤ 83 → 2900 * hf ≤ i → i < 2900 * hf + 2900 → hj c i = hi c i) (a2 : ∀ c, c = 85 ∨ c = 86 → hj c hf = hi c hf) (a3 : ∀ c i, 86 < c → c ≤ 90 → 24 * hf ≤ i → i < 24 * hf + 24 → hj c i = hi c i) (a4 : ∀ c i, 92 ≤ c → c ≤ 94 → 200 * hf ≤ i → i < 200 * hf + 200 → hj c i = hi c i) : pg_I hj nd nt nn hf sz L bd st := by
  obtain ⟨p1, p2, p3, p4, p5, p6, p7, p8, p9, p10, p11, p12, p13, p14⟩ := P
  refine ⟨p1, p2, p3, p4, by rw [o _ (by omega)]; exact p5, by rw [o _ (by omega)]; exact p6, by rw [o7]; exact p7, by rw [a2 _ (by omega)]; exact p8, by rw [a2 _ (by omega)]; exact p9, p10, p11, fun d hd => ?_, fun t ht => ?_, fun k hk => ?_⟩
  · have q := p12 d hd
    rw [o 20 (by omega), o 19 (by omega), o 21 (by omega), o 22 (by omega), o 26 (by omega), o 27 (by omega), o 28 (by omega), o 29 (by omega), o 30 (by omega), o 24 (by omega), o 23 (by omega), a3 90 _ (by decide) (by decide) (by omega) (by omega), a3 87 _ (by decide) (by decide) (by omega) (by omega), a3 89 _ (by decide) (by decide) (by omega) (by omega), a3 88 _ (by decide) (by decide) (by omega) (by omega)]
    exact q
  · have q := p13 t ht
    rw [o 23 (by omega), o 24 (by omega), o 25 (by omega), a4 92 _ (by decide) (by decide) (by omega) (by omega), a4 93 _ (by decide) (by decide) (by omega) (by omega), a4 94 _ (by decide) (by decide) (by omega) (by omega)]
    exact q
  · have q := p14 k hk
    unfold rp_N at q ⊢
    rw [o 26 (by omega), o 27 (by omega), o 28 (by omega), o 29 (by omega), o 30 (by omega), a1 79 _ (by decide) (by decide) (by omega) (by omega), a1 80 _ (by decide) (by decide) (by omega) (by omega), a1 81 _ (by decide) (by decide) (by omega) (by omega), a1 82 _ (by decide) (by decide) (by omega) (by omega), a1 83 _ (by decide) (by decide) (by omega) (by omega)]
    exact q
/-- a reading that did not fail: the spare, copied, is the PROGRAM -/
theorem pd_pg (P : pd_I hC m' nd nt nn rd sz L bd st) (hrd : rd < 2) (h7 : m' 73 7 = nI rd) (k0 : m' 17 0 = nI nd) (k1 : m' 17 1 = nI nt) (a : ∀ c i, 5 ≤ c → c ≤ 8 → i < nd → m' (c + 14) i = hC c i) (b : ∀ c i, 9 ≤ c → c ≤ 11 → i < nt → m' (c + 14) i = hC c i) (e : ∀ c i, 12 ≤ c → c ≤ 16 → i < nn → m' (c + 14) i = hC c i) : pg_I m' nd nt nn rd sz L bd st ∧ pk_I m' nd nn sz L := by
  obtain ⟨p1, p2, p3, p4, p5, p6, p7, p8, p9, p10, p11, p12, p13, p14⟩ := P
  have aP : ∀ i, i < nd → m' 19 i = hC 5 i := fun i h => a 5 i (by decide) (by decide) h
  have aS : ∀ i, i < nd → m' 20 i = hC 6 i := fun i h => a 6 i (by decide) (by decide) h
  have aT : ∀ i, i < nd → m' 21 i = hC 7 i := fun i h => a 7 i (by decide) (by decide) h
  have aB : ∀ i, i < nd → m' 22 i = hC 8 i := fun i h => a 8 i (by decide) (by decide) h
  have bK : ∀ i, i < nt → m' 23 i = hC 9 i := fun i h => b 9 i (by decide) (by decide) h
  have bD : ∀ i, i < nt → m' 24 i = hC 10 i := fun i h => b 10 i (by decide) (by decide) h
  have bP : ∀ i, i < nt → m' 25 i = hC 11 i := fun i h => b 11 i (by decide) (by decide) h
  have eK : ∀ i, i < nn → m' 26 i = hC 12 i := fun i h => e 12 i (by decide) (by decide) h
  have eM : ∀ i, i < nn → m' 27 i = hC 13 i := fun i h => e 13 i (by decide) (by decide) h
  have eA : ∀ i, i < nn → m' 28 i = hC 14 i := fun i h => e 14 i (by decide) (by decide) h
  have eB : ∀ i, i < nn → m' 29 i = hC 15 i := fun i h => e 15 i (by decide) (by decide) h
  have eC : ∀ i, i < nn → m' 30 i = hC 16 i := fun i h => e 16 i (by decide) (by decide) h
  refine ⟨⟨p1, p2, p3, hrd, k0, k1, h7, p7, p8, p9, p10, fun d hd => ?_, fun t ht => ?_, fun k hk => ?_⟩, fun k hk t ht hM => ?_⟩
  · obtain ⟨q1, q2, q3, q4, q5, q6, q7, q8, q9, q10, q11, ⟨f, g, f1, f2, f3⟩, q13⟩ := p11 d hd
    refine ⟨by rw [aS d hd]; exact q1, q2, q3, by rw [aP d hd]; exact q4, by rw [aT d hd]; exact q5, q6, by rw [aB d hd]; exact q7, q8, q9, q10, ⟨f, g, f1, f2, wf_cg f3 (fun i hi => ⟨eK i (by omega), eM i (by omega), eA i (by omega), eB i (by omega), eC i (by omega)⟩)⟩, fun t l1 l2 => ?_⟩
    rw [bD t (by omega), bK t (by omega)]
    exact q13 t l1 l2
  · rw [bK t ht, bD t ht, bP t ht]
    exact p12 t ht
  · have q := p13 k hk
    unfold rp_N at q ⊢
    rw [eK k hk, eM k hk, eA k hk, eB k hk, eC k hk]
    exact q
  · obtain ⟨q4, q5, q7⟩ := p14 k hk
    rw [eK k hk]
    rw [eM k hk] at hM
    refine ⟨fun z => ?_, fun z => ?_, fun z => ?_⟩
    · obtain ⟨a, a1, a2, a3, a4⟩ := q4 z
      have : t = a := (nI_eq (by omega) (by omega)).mp (hM.symm.trans a1)
      subst this
      rw [bK t (by omega), bK (t + 1) a2, a3, a4]
      exact ⟨rfl, by decide⟩
    · obtain ⟨a, a1, a2, a3⟩ := q5 z
      have : t = a := (nI_eq (by omega) (by omega)).mp (hM.symm.trans a1)
      subst this
      rw [bK t a2, a3]
      decide
    · obtain ⟨a, a1, a2, a3, a4⟩ := q7 z
      have : t = a := (nI_eq (by omega) (by omega)).mp (hM.symm.trans a1)
      subst this
      rw [bK t (by omega), bK (t + 1) a2, a3, a4]
      exact ⟨by decide, by decide⟩
end IV
