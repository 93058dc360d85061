/-! the parts of a NODE, with what their NAMES are bound to -/
section KD
variable {h0 : Nat → Nat → Int32} {nd nn : Nat} {T O EB EU : Nat → Int32} {B E x : Nat} {sb se : Int32}
theorem vk_1 (v : sr_E h0 nd nn T O EB EU B E x sb se) (k : h0 26 x = 1) : ∃ t X, h0 27 x = nI t ∧ t ∈ X ∧ (∀ u ∈ X, u < 200) ∧ X.length ≤ 200 ∧ sr_X T O EB EU B E X sb se := by
  obtain ⟨n, f, g, s, a, c, G, X, w, w1, w2, w3, w4, w5, w6⟩ := v
  have w7 := sr_c2 w2
  obtain ⟨t, t1, t2⟩ := wf_thing w k
  have o := wf_ord w
  exact ⟨t, X, t1, w4 t t2, fun u hu => by have := w6 u hu; omega, by omega, w3⟩
theorem vk_2 (v : sr_E h0 nd nn T O EB EU B E x sb se) (k : h0 26 x = 2) : ∃ e, h0 27 x = nI e ∧ e < nd := by
  obtain ⟨n, f, g, s, a, c, G, X, w, w1, w2, w3, w4, w5, w6⟩ := v
  have w7 := sr_c2 w2
  cases n with
  | zero => exact w.elim
  | succ n =>
    rcases w with ⟨w, _⟩ | ⟨w, _⟩ | ⟨w, r⟩ | ⟨w, _⟩ | ⟨w, _⟩ | ⟨w, _⟩ | ⟨w, _⟩ | ⟨w, _⟩ | ⟨w, _⟩ | ⟨w, _⟩
    all_goals first | exact absurd (w.symm.trans k) (by decide) | skip
    exact r.2.2
theorem vk_3 (v : sr_E h0 nd nn T O EB EU B E x sb se) (k : h0 26 x = 3) : ∃ i j, h0 28 x = nI i ∧ h0 29 x = nI j ∧ sr_E h0 nd nn T O EB EU B E i sb se ∧ sr_E h0 nd nn T O EB EU B E j sb se := by
  obtain ⟨n, f, g, s, a, c, G, X, w, w1, w2, w3, w4, w5, w6⟩ := v
  have w7 := sr_c2 w2
  cases n with
  | zero => exact w.elim
  | succ n =>
    rcases w with ⟨w, _⟩ | ⟨w, _⟩ | ⟨w, _⟩ | ⟨w, r⟩ | ⟨w, _⟩ | ⟨w, _⟩ | ⟨w, _⟩ | ⟨w, _⟩ | ⟨w, _⟩ | ⟨w, _⟩
    all_goals first | exact absurd (w.symm.trans k) (by decide) | skip
    obtain ⟨f', g', i, j, e, q1, q2, q3, q4, q5, q6, q7⟩ := r
    have o1 := wf_ord q6
    have o2 := wf_ord q7
    exact ⟨i, j, q3, q4, ⟨n, f', g', s, a, e, G, X, q6, by omega, sr_cm (by omega) w2, w3, w4, w5, w6⟩, ⟨n, f', g', i + 1, e, c, G, X, q7, by omega, w2, w3, w4, by omega, fun t ht => by have := w6 t ht; omega⟩⟩
theorem vk_4 (v : sr_E h0 nd nn T O EB EU B E x sb se) (k : h0 26 x = 4) : ∃ a j X, h0 27 x = nI a ∧ h0 28 x = nI j ∧ a + 2 ≤ 200 ∧ sr_X T O EB EU B E X sb se ∧ ∀ {T' O' EB' EU' : Nat → Int32} {B' E' : Nat} {b' e' : Int32}, sr_X T' O' EB' EU' B' E' ((a + 1) :: X) b' e' → sr_E h0 nd nn T' O' EB' EU' B' E' j b' e' := by
  obtain ⟨n, f, g, s, a, c, G, X, w, w1, w2, w3, w4, w5, w6⟩ := v
  have w7 := sr_c2 w2
  cases n with
  | zero => exact w.elim
  | succ n =>
    rcases w with ⟨w, _⟩ | ⟨w, _⟩ | ⟨w, _⟩ | ⟨w, _⟩ | ⟨w, r⟩ | ⟨w, _⟩ | ⟨w, _⟩ | ⟨w, _⟩ | ⟨w, _⟩ | ⟨w, _⟩
    all_goals first | exact absurd (w.symm.trans k) (by decide) | skip
    obtain ⟨f', g', j, q1, q2, q3, q4, q5, q6⟩ := r
    have o1 := wf_ord q6
    refine ⟨a, j, X, q3, q4, by omega, w3, fun u => ⟨n, f', g', s, a + 2, c, (a + 1) :: G, (a + 1) :: X, q6, by omega, w2, u, fun t ht => ?_, by rw [List.length_cons]; omega, fun t ht => ?_⟩⟩
    · rcases List.mem_cons.mp ht with e | e
      · rw [e]; exact List.mem_cons_self
      · exact List.mem_cons_of_mem _ (w4 t e)
    · rcases List.mem_cons.mp ht with e | e
      · omega
      · have := w6 t e; omega
theorem vk_5 (v : sr_E h0 nd nn T O EB EU B E x sb se) (k : h0 26 x = 5) : ∃ a i j X, h0 27 x = nI a ∧ h0 28 x = nI i ∧ h0 29 x = nI j ∧ a < 200 ∧ sr_c h0 (a + 1) ∧ sr_E h0 nd nn T O EB EU B E i sb se ∧ sr_X T O EB EU B E X sb se ∧ ∀ {T' O' EB' EU' : Nat → Int32} {B' E' : Nat} {b' e' : Int32}, sr_X T' O' EB' EU' B' E' (a :: X) b' e' → sr_E h0 nd nn T' O' EB' EU' B' E' j b' e' := by
  obtain ⟨n, f, g, s, a, c, G, X, w, w1, w2, w3, w4, w5, w6⟩ := v
  have w7 := sr_c2 w2
  cases n with
  | zero => exact w.elim
  | succ n =>
    rcases w with ⟨w, _⟩ | ⟨w, _⟩ | ⟨w, _⟩ | ⟨w, _⟩ | ⟨w, _⟩ | ⟨w, r⟩ | ⟨w, _⟩ | ⟨w, _⟩ | ⟨w, _⟩ | ⟨w, _⟩
    all_goals first | exact absurd (w.symm.trans k) (by decide) | skip
    obtain ⟨f', g', i, j, e, q1, q2, q3, q4, q5, q6, q7, q8⟩ := r
    have o1 := wf_ord q7
    have o2 := wf_ord q8
    refine ⟨a, i, j, X, q3, q4, q5, by omega, sr_cm (by omega) w2, ⟨n, f', g', s, a + 1, e, G, X, q7, by omega, sr_cm (by omega) w2, w3, w4, by omega, fun t ht => by have := w6 t ht; omega⟩, w3, fun u => ⟨n, f', g', i + 1, e, c, a :: G, a :: X, q8, by omega, w2, u, fun t ht => ?_, by rw [List.length_cons]; omega, fun t ht => ?_⟩⟩
    · rcases List.mem_cons.mp ht with e | e
      · rw [e]; exact List.mem_cons_self
      · exact List.mem_cons_of_mem _ (w4 t e)
    · rcases List.mem_cons.mp ht with e | e
      · omega
      · have := w6 t e; omega
theorem vk_6 (v : sr_E h0 nd nn T O EB EU B E x sb se) (k : h0 26 x = 6) : ∃ i j l, h0 28 x = nI i ∧ h0 29 x = nI j ∧ h0 30 x = nI l ∧ sr_E h0 nd nn T O EB EU B E i sb se ∧ sr_E h0 nd nn T O EB EU B E j sb se ∧ sr_E h0 nd nn T O EB EU B E l sb se := by
  obtain ⟨n, f, g, s, a, c, G, X, w, w1, w2, w3, w4, w5, w6⟩ := v
  have w7 := sr_c2 w2
  cases n with
  | zero => exact w.elim
  | succ n =>
    rcases w with ⟨w, _⟩ | ⟨w, _⟩ | ⟨w, _⟩ | ⟨w, _⟩ | ⟨w, _⟩ | ⟨w, _⟩ | ⟨w, r⟩ | ⟨w, _⟩ | ⟨w, _⟩ | ⟨w, _⟩
    all_goals first | exact absurd (w.symm.trans k) (by decide) | skip
    obtain ⟨f', g', i, j, l, p, e, q1, q2, q3, q4, q5, q6, q7, q8, q9⟩ := r
    have o1 := wf_ord q7
    have o2 := wf_ord q8
    have o3 := wf_ord q9
    exact ⟨i, j, l, q3, q4, q5, ⟨n, f', g', s, a, p, G, X, q7, by omega, sr_cm (by omega) w2, w3, w4, w5, w6⟩, ⟨n, f', g', i + 1, p, e, G, X, q8, by omega, sr_cm (by omega) w2, w3, w4, by omega, fun t ht => by have := w6 t ht; omega⟩, ⟨n, f', g', j + 1, e, c, G, X, q9, by omega, w2, w3, w4, by omega, fun t ht => by have := w6 t ht; omega⟩⟩
theorem vk_7 (v : sr_E h0 nd nn T O EB EU B E x sb se) (k : h0 26 x = 7) : ∃ a i j X, h0 27 x = nI a ∧ h0 28 x = nI i ∧ h0 29 x = nI j ∧ a + 2 ≤ 200 ∧ sr_E h0 nd nn T O EB EU B E i sb se ∧ sr_X T O EB EU B E X sb se ∧ ∀ {T' O' EB' EU' : Nat → Int32} {B' E' : Nat} {b' e' : Int32}, sr_X T' O' EB' EU' B' E' ((a + 1) :: a :: X) b' e' → sr_E h0 nd nn T' O' EB' EU' B' E' j b' e' := by
  obtain ⟨n, f, g, s, a, c, G, X, w, w1, w2, w3, w4, w5, w6⟩ := v
  have w7 := sr_c2 w2
  cases n with
  | zero => exact w.elim
  | succ n =>
    rcases w with ⟨w, _⟩ | ⟨w, _⟩ | ⟨w, _⟩ | ⟨w, _⟩ | ⟨w, _⟩ | ⟨w, _⟩ | ⟨w, _⟩ | ⟨w, r⟩ | ⟨w, _⟩ | ⟨w, _⟩
    all_goals first | exact absurd (w.symm.trans k) (by decide) | skip
    obtain ⟨f', g', i, j, e, q1, q2, q3, q4, q5, q6, q7, q8⟩ := r
    have o1 := wf_ord q7
    have o2 := wf_ord q8
    refine ⟨e, i, j, X, q3, q4, q5, by omega, ⟨n, f', g', s, a, e, G, X, q7, by omega, sr_cm (by omega) w2, w3, w4, w5, w6⟩, w3, fun u => ⟨n, f', g', i + 1, e + 2, c, (e + 1) :: e :: G, (e + 1) :: e :: X, q8, by omega, w2, u, fun t ht => ?_, by rw [List.length_cons, List.length_cons]; omega, fun t ht => ?_⟩⟩
    · rcases List.mem_cons.mp ht with y | ht
      · rw [y]; exact List.mem_cons_self
      · rcases List.mem_cons.mp ht with y | y
        · rw [y]; exact List.mem_cons_of_mem _ List.mem_cons_self
        · exact List.mem_cons_of_mem _ (List.mem_cons_of_mem _ (w4 t y))
    · rcases List.mem_cons.mp ht with y | ht
      · omega
      · rcases List.mem_cons.mp ht with y | y
        · omega
        · have := w6 t y; omega
theorem vk_8 (v : sr_E h0 nd nn T O EB EU B E x sb se) (k : h0 26 x = 8) : ∃ i j, (h0 27 x = 43 ∨ h0 27 x = 45 ∨ h0 27 x = 42 ∨ h0 27 x = 60) ∧ h0 28 x = nI i ∧ h0 29 x = nI j ∧ sr_E h0 nd nn T O EB EU B E i sb se ∧ sr_E h0 nd nn T O EB EU B E j sb se := by
  obtain ⟨n, f, g, s, a, c, G, X, w, w1, w2, w3, w4, w5, w6⟩ := v
  have w7 := sr_c2 w2
  cases n with
  | zero => exact w.elim
  | succ n =>
    rcases w with ⟨w, _⟩ | ⟨w, _⟩ | ⟨w, _⟩ | ⟨w, _⟩ | ⟨w, _⟩ | ⟨w, _⟩ | ⟨w, _⟩ | ⟨w, _⟩ | ⟨w, r⟩ | ⟨w, _⟩
    all_goals first | exact absurd (w.symm.trans k) (by decide) | skip
    obtain ⟨m, f1, f', i, j, e, q1, q2, q3, q4, q5, q6, q7⟩ := r
    have o1 := wf_ord q6
    have o2 := wf_ord q7
    exact ⟨i, j, m, q3, q4, ⟨n, f1, g, s, a, e, G, X, q6, by omega, sr_cm (by omega) w2, w3, w4, w5, w6⟩, ⟨n, f', g, i + 1, e, c, G, X, q7, by omega, w2, w3, w4, by omega, fun t ht => by have := w6 t ht; omega⟩⟩
theorem vk_9 (v : sr_E h0 nd nn T O EB EU B E x sb se) (k : h0 26 x = 9) : ∃ i j, h0 28 x = nI i ∧ h0 29 x = nI j ∧ sr_E h0 nd nn T O EB EU B E i sb se ∧ sr_E h0 nd nn T O EB EU B E j sb se := by
  obtain ⟨n, f, g, s, a, c, G, X, w, w1, w2, w3, w4, w5, w6⟩ := v
  have w7 := sr_c2 w2
  cases n with
  | zero => exact w.elim
  | succ n =>
    obtain ⟨f1, f', i, j, e, q1, q2, q3, q4, q5, q6, q7⟩ := wf_9 w k
    have o1 := wf_ord q6
    have o2 := wf_ord q7
    exact ⟨i, j, q3, q4, ⟨n, f1, g, s, a, e, G, X, q6, by omega, sr_cm (by omega) w2, w3, w4, w5, w6⟩, ⟨n, f', g, i + 1, e, c, G, X, q7, by omega, w2, w3, w4, by omega, fun t ht => by have := w6 t ht; omega⟩⟩
theorem vk_K (v : sr_E h0 nd nn T O EB EU B E x sb se) : x < nn ∧ (h0 26 x = 0 ∨ h0 26 x = 1 ∨ h0 26 x = 2 ∨ h0 26 x = 3 ∨ h0 26 x = 4 ∨ h0 26 x = 5 ∨ h0 26 x = 6 ∨ h0 26 x = 7 ∨ h0 26 x = 8 ∨ h0 26 x = 9) := by
  obtain ⟨n, f, g, s, a, c, G, X, w, w1, w2, w3, w4, w5, w6⟩ := v
  have w7 := sr_c2 w2
  refine ⟨w1, ?_⟩
  cases n with
  | zero => exact w.elim
  | succ n =>
    rcases w with ⟨w, _⟩ | ⟨w, _⟩ | ⟨w, _⟩ | ⟨w, _⟩ | ⟨w, _⟩ | ⟨w, _⟩ | ⟨w, _⟩ | ⟨w, _⟩ | ⟨w, _⟩ | ⟨w, _⟩ <;> simp only [w] <;> decide
end KD
/-- kinds of THINGS: that of a \\ is never bound -/
def pk_I (h : Nat → Nat → Int32) (nd nn : Nat) (sz L : Nat → Nat) : Prop := (∀ k, k < nn → ∀ t, t < 200 → h 27 k = nI t → (h 26 k = 4 → h 23 t = 4 ∧ h 23 (t + 1) ≠ 4) ∧ (h 26 k = 5 → h 23 t ≠ 4) ∧ (h 26 k = 7 → h 23 t ≠ 4 ∧ h 23 (t + 1) ≠ 4))
/-- what stands still in a RUN -/
def rn_K (h0 h1 : Nat → Nat → Int32) (z nd nt nn hf : Nat) (sz L bd st : Nat → Nat) (md : Int32) : Prop := pg_I h0 nd nt nn hf sz L bd st ∧ z = 2900 * hf ∧ (∀ c, pg_c c → 73 < c → h1 c = h0 c) ∧ h1 73 7 = nI hf ∧ pk_I h0 nd nn sz L ∧ (md = 0 ∨ md = 1 ∨ md = 2 ∨ md = 3) ∧ (md ≠ 0 → ∀ t, t < nt → h0 31 t = h1 101 t)
section RK
variable {h0 h1 hC hM : Nat → Nat → Int32} {hl : Nat → Nat → Int64} {z nd nt nn hf lim : Nat} {sz L bd st : Nat → Nat} {md : Int32} {nb ne nc nf np nw s cn cl : Nat}
theorem rk_m (Kx : rn_K h0 h1 z nd nt nn hf sz L bd st md) (S : rn_S h0 h1 z nd nn sz lim md hC hM nb ne nc nf np nw s cn cl) {c : Nat} (h : pg_c c) (h2 : 73 < c) : hM c = h0 c := by
  rw [S.2.2.1.2.2.2.1 c (by unfold pg_c at h; omega) (by omega)]
  exact Kx.2.2.1 c h h2
theorem rk_rp (Kx : rn_K h0 h1 z nd nt nn hf sz L bd st md) (S : rn_S h0 h1 z nd nn sz lim md hC hM nb ne nc nf np nw s cn cl) {k : Nat} (hk : k < nn) : rp_N (h0 26) (h0 27) (h0 28) (h0 29) (h0 30) hM z k := by
  have p := Kx.1.2.2.2.2.2.2.2.2.2.2.2.2.2 k hk
  rw [← Kx.2.1] at p
  unfold rp_N at p ⊢
  rw [rk_m Kx S (c := 79) (by unfold pg_c; omega) (by omega), rk_m Kx S (c := 80) (by unfold pg_c; omega) (by omega), rk_m Kx S (c := 81) (by unfold pg_c; omega) (by omega), rk_m Kx S (c := 82) (by unfold pg_c; omega) (by omega), rk_m Kx S (c := 83) (by unfold pg_c; omega) (by omega)]
  exact p
theorem rk_c (S : rn_S h0 h1 z nd nn sz lim md hC hM nb ne nc nf np nw s cn cl) {c : Nat} (h : c < 45 ∨ 71 < c) : hC c = h0 c := S.2.2.1.1 c h
theorem rk_z (Kx : rn_K h0 h1 z nd nt nn hf sz L bd st md) : z ≤ 2900 ∧ nn ≤ 2900 ∧ nd ≤ 24 ∧ nt ≤ 200 ∧ hf < 2 ∧ z = 2900 * hf := ⟨by have := Kx.1.2.2.2.1; have := Kx.2.1; omega, Kx.1.2.2.1, Kx.1.1, Kx.1.2.1, Kx.1.2.2.2.1, Kx.2.1⟩
end RK
