/-! numbers from 0 on against literals; rewritten by simp with omega -/
theorem nl_lt {a n : Nat} (ha : a < 2 ^ 31) (hn : (OfNat.ofNat n : Nat) < 2 ^ 31) : (nI a < (OfNat.ofNat n : Int32)) = (a < (OfNat.ofNat n : Nat)) := propext (nI_ltI ha hn)
theorem nl_gt {a n : Nat} (ha : a < 2 ^ 31) (hn : (OfNat.ofNat n : Nat) < 2 ^ 31) : ((OfNat.ofNat n : Int32) < nI a) = ((OfNat.ofNat n : Nat) < a) := propext (nI_ltI hn ha)
theorem nl_le {a n : Nat} (ha : a < 2 ^ 31) (hn : (OfNat.ofNat n : Nat) < 2 ^ 31) : (nI a ≤ (OfNat.ofNat n : Int32)) = (a ≤ (OfNat.ofNat n : Nat)) := propext (nI_leI ha hn)
theorem nl_ge {a n : Nat} (ha : a < 2 ^ 31) (hn : (OfNat.ofNat n : Nat) < 2 ^ 31) : ((OfNat.ofNat n : Int32) ≤ nI a) = ((OfNat.ofNat n : Nat) ≤ a) := propext (nI_leI hn ha)
theorem nl_eq {a n : Nat} (ha : a < 2 ^ 31) (hn : (OfNat.ofNat n : Nat) < 2 ^ 31) : (nI a = (OfNat.ofNat n : Int32)) = (a = (OfNat.ofNat n : Nat)) := propext (nI_eq ha hn)
theorem nl_add (a n : Nat) : nI a + (OfNat.ofNat n : Int32) = nI (a + (OfNat.ofNat n : Nat)) := nI_add a n
theorem nl_dda (a n : Nat) : (OfNat.ofNat n : Int32) + nI a = nI ((OfNat.ofNat n : Nat) + a) := nI_add n a
theorem nl_mul (a n : Nat) : nI a * (OfNat.ofNat n : Int32) = nI (a * (OfNat.ofNat n : Nat)) := pk_mul a n
theorem nl_lum (a n : Nat) : (OfNat.ofNat n : Int32) * nI a = nI ((OfNat.ofNat n : Nat) * a) := pk_mul n a
theorem nI_sub {a b : Nat} (h : b ≤ a) : nI a - nI b = nI (a - b) := by
  have e : nI a = nI (a - b) + nI b := by rw [nI_add, Nat.sub_add_cancel h]
  rw [e, Int32.add_sub_cancel]
theorem nl_sub {a n : Nat} (h : (OfNat.ofNat n : Nat) ≤ a) : nI a - (OfNat.ofNat n : Int32) = nI (a - (OfNat.ofNat n : Nat)) := nI_sub h
theorem nl_m1 {a : Nat} (ha : a < 2 ^ 31) : (nI a = -1) = False := by
  refine propext ⟨fun h => ?_, False.elim⟩
  exact nI_pos ha (by rw [h]; decide)
theorem li_ge {a n : Nat} (h : a < (OfNat.ofNat n : Nat)) (hn : (OfNat.ofNat n : Nat) < 2 ^ 31) : ¬ (OfNat.ofNat n : Int32) ≤ nI a := nI_ge h hn
theorem li_le {a n : Nat} (h : (OfNat.ofNat n : Nat) ≤ a) (ha : a < 2 ^ 31) : (OfNat.ofNat n : Int32) ≤ nI a := nI_le h ha
theorem li_nle {a n : Nat} (h : (OfNat.ofNat n : Nat) < a) (ha : a < 2 ^ 31) : ¬ nI a ≤ (OfNat.ofNat n : Int32) := nI_ge h ha
theorem li_ele {a n : Nat} (h : a ≤ (OfNat.ofNat n : Nat)) (hn : (OfNat.ofNat n : Nat) < 2 ^ 31) : nI a ≤ (OfNat.ofNat n : Int32) := nI_le h hn
theorem li_lt {a n : Nat} (h : a < (OfNat.ofNat n : Nat)) (hn : (OfNat.ofNat n : Nat) < 2 ^ 31) : nI a < (OfNat.ofNat n : Int32) := nI_lt h hn
theorem li_nlt {a n : Nat} (h : (OfNat.ofNat n : Nat) ≤ a) (ha : a < 2 ^ 31) : ¬ nI a < (OfNat.ofNat n : Int32) := nI_nlt h ha
theorem li_gt {a n : Nat} (h : (OfNat.ofNat n : Nat) < a) (ha : a < 2 ^ 31) : (OfNat.ofNat n : Int32) < nI a := nI_lt h ha
theorem li_ngt {a n : Nat} (h : a ≤ (OfNat.ofNat n : Nat)) (hn : (OfNat.ofNat n : Nat) < 2 ^ 31) : ¬ (OfNat.ofNat n : Int32) < nI a := nI_nlt h hn
theorem li_ne {a n : Nat} (h : a ≠ (OfNat.ofNat n : Nat)) (ha : a < 2 ^ 31) (hn : (OfNat.ofNat n : Nat) < 2 ^ 31) : nI a ≠ (OfNat.ofNat n : Int32) := fun e => h ((nI_eq ha hn).mp e)
/-! tasks and layers of the class's foreteller as lists, the top first -/
def fi_T (hi : Nat → Nat → Int32) : List (Int32 × Int32 × Int32) → Prop
  | [] => True
  | q :: r => hi 42 r.length = q.1 ∧ hi 43 r.length = q.2.1 ∧ hi 44 r.length = q.2.2 ∧ fi_T hi r
def fi_L (hi : Nat → Nat → Int32) (L H : Nat) : List (Nat → Int32) → Prop
  | [] => True
  | V :: r => (∀ t, L ≤ t → t < H → hi 40 (200 * r.length + t) = V t) ∧ fi_L hi L H r
def fi_S (h0 hi : Nat → Nat → Int32) (L H : Nat) (ts : List (Int32 × Int32 × Int32)) (Vs : List (Nat → Int32)) (S : Nat → Int32) : Prop :=
  (∀ c, c < 38 ∨ 44 < c → hi c = h0 c) ∧ hi 38 7 = nI ts.length ∧ fi_T hi ts ∧ hi 39 1 + 1 = nI Vs.length ∧ hi 39 2 = nI L ∧ hi 39 3 = nI H ∧ fi_L hi L H Vs ∧ (∀ t, t < 200 → hi 41 t = S t)
theorem fi_Tf {hi hj : Nat → Nat → Int32} : ∀ ts : List (Int32 × Int32 × Int32), (∀ x, x < ts.length → hj 42 x = hi 42 x ∧ hj 43 x = hi 43 x ∧ hj 44 x = hi 44 x) → fi_T hi ts → fi_T hj ts
  | [], _, _ => trivial
  | q :: r, h, g => by
    have e := h r.length (by simp)
    refine ⟨e.1.trans g.1, e.2.1.trans g.2.1, e.2.2.trans g.2.2.1, fi_Tf r (fun x hx => h x (by simp; omega)) g.2.2.2⟩
theorem fi_Lf {hi hj : Nat → Nat → Int32} {L H : Nat} (hH : H ≤ 200) : ∀ Vs : List (Nat → Int32), (∀ x, x < 200 * Vs.length → hj 40 x = hi 40 x) → fi_L hi L H Vs → fi_L hj L H Vs
  | [], _, _ => trivial
  | V :: r, h, g => by
    refine ⟨fun t h1 h2 => (h _ ?_).trans (g.1 t h1 h2), fi_Lf hH r (fun x hx => h x ?_) g.2⟩
    · rw [List.length_cons]; omega
    · rw [List.length_cons]; omega
theorem fi_push {h0 hi : Nat → Nat → Int32} {L H : Nat} {ts : List (Int32 × Int32 × Int32)} {Vs : List (Nat → Int32)} {S : Nat → Int32} (h : fi_S h0 hi L H ts Vs S) (x y z : Int32) : fi_S h0 (fp_push hi ts.length x y z) L H ((x, y, z) :: ts) Vs S := by
  obtain ⟨a1, a2, a3, a4, a5, a6, a7, a8⟩ := h
  have o : ∀ c, c < 38 ∨ 44 < c ∨ c = 39 ∨ c = 40 ∨ c = 41 → fp_push hi ts.length x y z c = hi c := fun c hc => fp_off (by omega)
  refine ⟨fun c hc => (o c (by omega)).trans (a1 c hc), fp_wait _ _ _ _ _, ⟨?_, ?_, ?_, fi_Tf ts (fun j hj => ⟨?_, ?_, ?_⟩) a3⟩, (by rw [o 39 (by omega)]; exact a4), (by rw [o 39 (by omega)]; exact a5), (by rw [o 39 (by omega)]; exact a6), ?_, fun t ht => (by rw [o 41 (by omega)]; exact a8 t ht)⟩
  · unfold fp_push; rw [am_si_ne (by decide), am_si_ne (by decide), am_si_ne (by decide)]; exact am_si_at _ _ _ _
  · unfold fp_push; rw [am_si_ne (by decide), am_si_ne (by decide)]; exact am_si_at _ _ _ _
  · unfold fp_push; rw [am_si_ne (by decide)]; exact am_si_at _ _ _ _
  · unfold fp_push; rw [am_si_ne (by decide), am_si_ne (by decide), am_si_ne (by decide)]; exact am_si_off (by omega)
  · unfold fp_push; rw [am_si_ne (by decide), am_si_ne (by decide)]; rw [am_si_off (by omega), am_si_ne (by decide)]
  · unfold fp_push; rw [am_si_ne (by decide)]; rw [am_si_off (by omega), am_si_ne (by decide), am_si_ne (by decide)]
  · have e : ∀ Vs : List (Nat → Int32), fi_L hi L H Vs → fi_L (fp_push hi ts.length x y z) L H Vs := by
      intro Vs
      induction Vs with
      | nil => exact fun _ => trivial
      | cons V r ih => exact fun g => ⟨fun t h1 h2 => (by rw [o 40 (by omega)]; exact g.1 t h1 h2), ih g.2⟩
    exact e Vs a7
theorem fi_pop {h0 hi : Nat → Nat → Int32} {L H : Nat} {q : Int32 × Int32 × Int32} {ts : List (Int32 × Int32 × Int32)} {Vs : List (Nat → Int32)} {S : Nat → Int32} (hH : H ≤ 200) (h : fi_S h0 hi L H (q :: ts) Vs S) : fi_S h0 (am_si hi 38 7 (nI ts.length)) L H ts Vs S := by
  obtain ⟨a1, a2, a3, a4, a5, a6, a7, a8⟩ := h
  have o : ∀ c, c ≠ 38 → am_si hi 38 7 (nI ts.length) c = hi c := fun c hc => am_si_ne hc
  refine ⟨fun c hc => (o c (by omega)).trans (a1 c hc), am_si_at _ _ _ _, fi_Tf ts (fun j hj => ⟨(by rw [o _ (by decide)]), (by rw [o _ (by decide)]), (by rw [o _ (by decide)])⟩) a3.2.2.2, (by rw [o 39 (by omega)]; exact a4), (by rw [o 39 (by omega)]; exact a5), (by rw [o 39 (by omega)]; exact a6), fi_Lf hH Vs (fun j hj => (by rw [o _ (by decide)])) a7, fun t ht => (by rw [o 41 (by omega)]; exact a8 t ht)⟩
theorem fi_top {h0 hi : Nat → Nat → Int32} {L H : Nat} {ts : List (Int32 × Int32 × Int32)} {V : Nat → Int32} {Vs : List (Nat → Int32)} {S : Nat → Int32} (h : fi_S h0 hi L H ts (V :: Vs) S) : hi 39 1 = nI Vs.length := by
  have e := h.2.2.2.1
  rw [List.length_cons, ← nI_1] at e
  have e2 := congrArg (fun z => z - 1) e
  simpa only [Int32.add_sub_cancel] using e2
/-- what the parts of a heap that a layer's work touches need -/
theorem fi_lay {h0 hi hj : Nat → Nat → Int32} {L H : Nat} {ts : List (Int32 × Int32 × Int32)} {Vs Vs' : List (Nat → Int32)} {S S' : Nat → Int32} (h : fi_S h0 hi L H ts Vs S) (o : ∀ c x, c ≠ 40 → c ≠ 41 → ¬ (c = 39 ∧ x = 1) → hj c x = hi c x) (h4 : hj 39 1 + 1 = nI Vs'.length) (h7 : fi_L hj L H Vs') (h8 : ∀ t, t < 200 → hj 41 t = S' t) : fi_S h0 hj L H ts Vs' S' := by
  obtain ⟨a1, a2, a3, a4, a5, a6, a7, a8⟩ := h
  refine ⟨fun c hc => funext fun x => (o c x (by omega) (by omega) (by omega)).trans (congrFun (a1 c hc) x), (o _ _ (by decide) (by decide) (by decide)).trans a2, fi_Tf ts (fun x _ => ⟨o _ _ (by decide) (by decide) (fun e => absurd e.1 (by decide)), o _ _ (by decide) (by decide) (fun e => absurd e.1 (by decide)), o _ _ (by decide) (by decide) (fun e => absurd e.1 (by decide))⟩) a3, h4, (o _ _ (by decide) (by decide) (by decide)).trans a5, (o _ _ (by decide) (by decide) (by decide)).trans a6, h7, h8⟩
/-- the top layer is another function of the same numbers -/
theorem fi_cg {h0 hi : Nat → Nat → Int32} {L H : Nat} {ts : List (Int32 × Int32 × Int32)} {V V' : Nat → Int32} {Vs : List (Nat → Int32)} {S S' : Nat → Int32} (h : fi_S h0 hi L H ts (V :: Vs) S) (e : ∀ t, L ≤ t → t < H → V t = V' t) (e' : ∀ t, t < 200 → S t = S' t) : fi_S h0 hi L H ts (V' :: Vs) S' := by
  obtain ⟨a1, a2, a3, a4, a5, a6, a7, a8⟩ := h
  exact ⟨a1, a2, a3, a4, a5, a6, ⟨fun t h1 h2 => (a7.1 t h1 h2).trans (e t h1 h2), a7.2⟩, fun t ht => (a8 t ht).trans (e' t ht)⟩
def fi_u (V : Nat → Int32) (t : Nat) (u : Int32) : Nat → Int32 := fun x => if x = t then u else V x
theorem fi_setTop {h0 hi : Nat → Nat → Int32} {L H : Nat} {ts : List (Int32 × Int32 × Int32)} {V : Nat → Int32} {Vs : List (Nat → Int32)} {S : Nat → Int32} (hH : H ≤ 200) (h : fi_S h0 hi L H ts (V :: Vs) S) {t : Nat} (ht : t < 200) (u : Int32) : fi_S h0 (am_si hi 40 (200 * Vs.length + t) u) L H ts (fi_u V t u :: Vs) S := by
  refine fi_lay h (fun c x q1 q2 q3 => am_si_off (fun e => q1 e.1)) ?_ ⟨fun x h1 h2 => ?_, fi_Lf hH Vs (fun x hx => am_si_off (by omega)) h.2.2.2.2.2.2.1.2⟩ (fun x hx => (am_si_off (fun e => absurd e.1 (by decide))).trans (h.2.2.2.2.2.2.2 x hx))
  · rw [am_si_off (by omega)]; exact h.2.2.2.1
  · by_cases e : x = t
    · subst e; rw [am_si_at]; exact (if_pos rfl).symm
    · rw [am_si_off (by omega)]; exact (h.2.2.2.2.2.2.1.1 x h1 h2).trans (if_neg e).symm
theorem fi_setSeen {h0 hi : Nat → Nat → Int32} {L H : Nat} {ts : List (Int32 × Int32 × Int32)} {Vs : List (Nat → Int32)} {S : Nat → Int32} (hH : H ≤ 200) (h : fi_S h0 hi L H ts Vs S) (t : Nat) (u : Int32) : fi_S h0 (am_si hi 41 t u) L H ts Vs (fi_u S t u) := by
  refine fi_lay h (fun c x q1 q2 q3 => am_si_off (fun e => q2 e.1)) ?_ (fi_Lf hH Vs (fun x hx => am_si_off (fun e => absurd e.1 (by decide))) h.2.2.2.2.2.2.1) (fun x hx => ?_)
  · rw [am_si_off (by omega)]; exact h.2.2.2.1
  · by_cases e : x = t
    · subst e; rw [am_si_at]; exact (if_pos rfl).symm
    · rw [am_si_off (by omega)]; exact (h.2.2.2.2.2.2.2 x hx).trans (if_neg e).symm
