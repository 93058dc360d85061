/-! the reference's rows as functions -/
def fm_S (h0 h : Nat → Nat → Int32) (T : Nat) (RW : Nat → Nat → Int32) (S : Nat → Int32) : Prop :=
  (∀ c, c ≠ 99 → c ≠ 100 → c ≠ 101 → c ≠ 73 → h c = h0 c) ∧ (∀ x, x ≠ 39 → h 73 x = h0 73 x) ∧ h 73 39 = nI T ∧ (∀ r t, r < T → t < 200 → h 99 (200 * r + t) = uk_c (RW r t) ∧ h 100 (200 * r + t) = uk_d (RW r t)) ∧ (∀ t, t < 200 → h 101 t = S t)
def fm_u (RW : Nat → Nat → Int32) (r : Nat) (V : Nat → Int32) : Nat → Nat → Int32 := fun x => if x = r then V else RW x
theorem fm_at (RW : Nat → Nat → Int32) (r : Nat) (V : Nat → Int32) : fm_u RW r V r = V := if_pos rfl
theorem fm_ne {RW : Nat → Nat → Int32} {r x : Nat} {V : Nat → Int32} (h : x ≠ r) : fm_u RW r V x = RW x := if_neg h
theorem fm_uu (RW : Nat → Nat → Int32) (r : Nat) (V V' : Nat → Int32) : fm_u (fm_u RW r V) r V' = fm_u RW r V' := by
  funext x
  unfold fm_u
  by_cases c : x = r
  · rw [if_pos c, if_pos c]
  · rw [if_neg c, if_neg c, if_neg c]
theorem fm_cg {h0 h : Nat → Nat → Int32} {T : Nat} {RW RW' : Nat → Nat → Int32} {S S' : Nat → Int32} (s : fm_S h0 h T RW S) (e : ∀ r t, r < T → t < 200 → RW r t = RW' r t) (e' : ∀ t, t < 200 → S t = S' t) : fm_S h0 h T RW' S' :=
  ⟨s.1, s.2.1, s.2.2.1, fun r t h1 h2 => by rw [← e r t h1 h2]; exact s.2.2.2.1 r t h1 h2, fun t ht => (s.2.2.2.2 t ht).trans (e' t ht)⟩
theorem fm_cu {h0 h : Nat → Nat → Int32} {T ρ : Nat} {RW : Nat → Nat → Int32} {V V' : Nat → Int32} {S S' : Nat → Int32} (s : fm_S h0 h T (fm_u RW ρ V) S) (e : ∀ t, t < 200 → V t = V' t) (e' : ∀ t, t < 200 → S t = S' t) : fm_S h0 h T (fm_u RW ρ V') S' := by
  refine fm_cg s (fun r t h1 h2 => ?_) e'
  unfold fm_u
  by_cases c : r = ρ
  · rw [if_pos c, if_pos c]; exact e t h2
  · rw [if_neg c, if_neg c]
section EM
variable {h0 h : Nat → Nat → Int32} {hl : Nat → Nat → Int64} {T ρ : Nat} {RW : Nat → Nat → Int32} {S : Nat → Int32}
theorem fm_set {t : Nat} {u : Int32} (hr : ρ < T) (ht : t < 200) (s : fm_S h0 h T RW S) : fm_S h0 (am_si (am_si h 99 (200 * ρ + t) (uk_c u)) 100 (200 * ρ + t) (uk_d u)) T (fm_u RW ρ (fi_u (RW ρ) t u)) S := by
  refine ⟨fun c q1 q2 q3 q4 => ?_, fun x hx => ?_, ?_, fun r x h1 h2 => ?_, fun x hx => ?_⟩
  · rw [am_si_ne q2, am_si_ne q1]; exact s.1 c q1 q2 q3 q4
  · rw [am_si_ne (by decide), am_si_ne (by decide)]; exact s.2.1 x hx
  · rw [am_si_ne (by decide), am_si_ne (by decide)]; exact s.2.2.1
  · unfold fm_u fi_u
    by_cases c : r = ρ
    · rw [if_pos c]
      subst c
      by_cases c2 : x = t
      · subst c2
        rw [if_pos rfl, am_si_at, am_si_ne (by decide), am_si_at]
        exact ⟨rfl, rfl⟩
      · rw [if_neg c2, am_si_off (by omega), am_si_off (by omega), am_si_off (by omega), am_si_off (by omega)]
        exact s.2.2.2.1 r x h1 h2
    · rw [if_neg c, am_si_off (by omega), am_si_off (by omega), am_si_off (by omega), am_si_off (by omega)]
      exact s.2.2.2.1 r x h1 h2
  · rw [am_si_ne (by decide), am_si_ne (by decide)]; exact s.2.2.2.2 x hx
theorem fm_seen {t : Nat} {u : Int32} (s : fm_S h0 h T RW S) : fm_S h0 (am_si h 101 t u) T RW (fi_u S t u) := by
  refine ⟨fun c q1 q2 q3 q4 => ?_, fun x hx => ?_, ?_, fun r x h1 h2 => ?_, fun x hx => ?_⟩
  · rw [am_si_ne q3]; exact s.1 c q1 q2 q3 q4
  · rw [am_si_ne (by decide)]; exact s.2.1 x hx
  · rw [am_si_ne (by decide)]; exact s.2.2.1
  · rw [am_si_ne (by decide), am_si_ne (by decide)]; exact s.2.2.2.1 r x h1 h2
  · unfold fi_u
    by_cases c : x = t
    · subst c; rw [if_pos rfl, am_si_at]
    · rw [if_neg c, am_si_off (by omega)]; exact s.2.2.2.2 x hx
theorem fm_add (n t : Nat) {u : Int32} (hu : u ∈ us_codes) (hv : RW ρ t ∈ us_codes) (hr : ρ < T) (hT : T ≤ 140) (ht : t < 200) (s : fm_S h0 h T RW S) : ∃ h', am_call tb_P (n + 1) 52 [.ref 73, .int (nI (200 * ρ)), .int (nI t), .int (uk_c u), .int (uk_d u)] (pr_S, h, hl) = some (none, (pr_S, h', hl)) ∧ fm_S h0 h' T (fm_u RW ρ (fi_u (RW ρ) t (us_both (RW ρ t) u))) S := by
  have e := s.2.2.2.1 ρ t hr ht
  have p := us_both_add _ hv _ hu
  refine ⟨_, ?_, fm_set (u := us_both (RW ρ t) u) hr ht s⟩
  rw [em_add n (200 * ρ) t (200 * ρ + t) _ _ _ _ rfl (by omega), e.1, e.2, p.1, p.2]
theorem fm_take (n t : Nat) (hv : RW ρ t ∈ us_codes) (hr : ρ < T) (hT : T ≤ 140) (ht : t < 200) (s : fm_S h0 h T RW S) : ∃ h', am_call tb_P (n + 2) 55 [.ref 73, .int (nI (200 * ρ)), .int (nI t)] (pr_S, h, hl) = some (some (.int (RW ρ t)), (pr_S, h', hl)) ∧ fm_S h0 h' T (fm_u RW ρ (fi_u (RW ρ) t 0)) (fi_m S t (RW ρ t)) := by
  have e := s.2.2.2.1 ρ t hr ht
  have e2 := s.2.2.2.2 t ht
  refine ⟨_, ?_, fm_set (u := 0) hr ht (fm_seen (t := t) (u := us_max (S t) (RW ρ t >>> (3 &&& 31))) s)⟩
  rw [em_takenOut n (200 * ρ) t (200 * ρ + t) _ _ rfl (by omega) ht, e.1, e.2, e2, us_cd _ hv]
  rfl
theorem fm_meet (n t : Nat) (c : Int32) (ht : t < 200) (s : fm_S h0 h T RW S) : ∃ h', am_call tb_P (n + 1) 54 [.ref 73, .int (nI t), .int c] (pr_S, h, hl) = some (none, (pr_S, h', hl)) ∧ fm_S h0 h' T RW (fi_u S t (us_max (S t) c)) := by
  have e2 := s.2.2.2.2 t ht
  refine ⟨_, ?_, fm_seen (t := t) (u := us_max (S t) c) s⟩
  rw [em_meet n t c _ _ ht, e2]
theorem fm_empty (n : Nat) (hT : T < 140) (s : fm_S h0 h T RW S) : ∃ h', am_call tb_P (n + 1) 51 [.ref 73] (pr_S, h, hl) = some (some (.int (nI (200 * T))), (pr_S, h', hl)) ∧ fm_S h0 h' (T + 1) (fm_u RW T (fun _ => 0)) S := by
  obtain ⟨h', r1, r2, r3, r4, r5⟩ := em_emptyRow n T h hl s.2.2.1 hT
  refine ⟨h', r1, fun c q1 q2 q3 q4 => funext fun x => ?_, fun x hx => ?_, r2, fun r x h1 h2 => ?_, fun x hx => ?_⟩
  · rw [r3 c x q1 q2 (fun e => q4 e.1), s.1 c q1 q2 q3 q4]
  · rw [r3 _ x (by decide) (by decide) (fun e => hx e.2)]; exact s.2.1 x hx
  · unfold fm_u
    by_cases c : r = T
    · subst c
      rw [if_pos rfl, (r5 _ (by omega) (by omega)).1, (r5 _ (by omega) (by omega)).2]
      exact ⟨by decide, by decide⟩
    · rw [if_neg c, (r4 _ (by omega)).1, (r4 _ (by omega)).2]
      exact s.2.2.2.1 r x (by omega) h2
  · rw [r3 _ x (by decide) (by decide) (fun e => absurd e.1 (by decide))]; exact s.2.2.2.2 x hx
theorem fm_pop {T0 : Nat} (hT : T0 ≤ T) (s : fm_S h0 h T RW S) : fm_S h0 (am_si h 73 39 (nI T0)) T0 RW S := by
  refine ⟨fun c q1 q2 q3 q4 => ?_, fun x hx => ?_, am_si_at _ _ _ _, fun r x h1 h2 => ?_, fun x hx => ?_⟩
  · rw [am_si_ne q4]; exact s.1 c q1 q2 q3 q4
  · rw [am_si_off (by omega)]; exact s.2.1 x hx
  · rw [am_si_ne (by decide), am_si_ne (by decide)]; exact s.2.2.2.1 r x (by omega) h2
  · rw [am_si_ne (by decide)]; exact s.2.2.2.2 x hx
end EM
/-- a NODE of the class and the same one of the reference -/
def rp_N (K M A B C : Nat → Int32) (h : Nat → Nat → Int32) (z k : Nat) : Prop :=
  (K k = 0 → h 79 (z + k) = 3 ∧ h 80 (z + k) = M k)
  ∧ (K k = 1 → h 79 (z + k) = 23 ∧ h 80 (z + k) = M k)
  ∧ (K k = 2 → h 79 (z + k) = 24 ∧ h 80 (z + k) = M k)
  ∧ (K k = 3 → h 79 (z + k) = 21 ∧ h 80 (z + k) = nI z + A k ∧ h 81 (z + k) = nI z + B k)
  ∧ (K k = 4 → h 79 (z + k) = 20 ∧ h 80 (z + k) = nI z + A k ∧ h 81 (z + k) = M k + 1 ∧ h 83 (z + k) = M k)
  ∧ (K k = 5 → h 79 (z + k) = 4 ∧ h 80 (z + k) = nI z + A k ∧ h 81 (z + k) = nI z + B k ∧ h 82 (z + k) = M k)
  ∧ (K k = 6 → h 79 (z + k) = 6 ∧ h 80 (z + k) = nI z + A k ∧ h 81 (z + k) = nI z + B k ∧ h 82 (z + k) = nI z + C k)
  ∧ (K k = 7 → h 79 (z + k) = 9 ∧ h 80 (z + k) = nI z + A k ∧ h 81 (z + k) = nI z + B k ∧ h 82 (z + k) = M k)
  ∧ (K k = 8 → h 79 (z + k) = M k ∧ h 80 (z + k) = nI z + A k ∧ h 81 (z + k) = nI z + B k)
  ∧ (K k = 9 → h 79 (z + k) = 22 ∧ h 80 (z + k) = nI z + A k ∧ h 81 (z + k) = nI z + B k)
