/-! the class foretells what ft says -/
def ft_C (h0 : Nat → Nat → Int32) (L H : Nat) (hl : Nat → Nat → Int64) (nd N : Nat) : Prop := ∀ (f g k s a b : Nat) (G : List Nat) (D : Int32) (ts : List (Int32 × Int32 × Int32)) (V : Nat → Int32) (Vs : List (Nat → Int32)) (S : Nat → Int32), wf_N (h0 26) (h0 27) (h0 28) (h0 29) (h0 30) nd N f g k s a b G → k < 4000 → (∀ t ∈ G, L ≤ t ∧ t < a) → L ≤ a → b ≤ H → D ∈ us_dm → vs_ok V S → (∀ t, a ≤ t → t < b → V t = 0) → ts.length + (k + 1 - s) + 5 * g + 1 ≤ 4000 → Vs.length + 2 * g < 82 → fe h0 L H hl (7 * (k + 1 - s)) ((0, nI k, D) :: ts) ts V Vs S (ft (h0 26) (h0 27) (h0 28) (h0 29) (h0 30) (h0 20) (h0 36) N k D)
section EA
variable {h0 : Nat → Nat → Int32} {L H : Nat} {hl : Nat → Nat → Int64} {nd : Nat}
theorem wf_thing {K M A B C : Nat → Int32} {n f g k s a b : Nat} {G : List Nat} (h : wf_N K M A B C nd n f g k s a b G) (e : K k = 1) : ∃ t, M k = nI t ∧ t ∈ G := by
  cases n with
  | zero => exact h.elim
  | succ n =>
    rcases h with ⟨h, _⟩ | ⟨_, _, _, t, e1, e2⟩ | ⟨h, _⟩ | ⟨h, _⟩ | ⟨h, _⟩ | ⟨h, _⟩ | ⟨h, _⟩ | ⟨h, _⟩ | ⟨h, _⟩ | ⟨h, _⟩
    all_goals first | exact absurd (h.symm.trans e) (by decide) | skip
    exact ⟨t, e1, e2⟩
/-- nothing new where nothing may be named -/
theorem ft_vz {V X : Nat → Int32} {G : List Nat} {t : Nat} (h : V t = 0) (hX : ft_g G X) (ht : t < 200) (hn : t ∉ G) : ft_v V X t = 0 := by
  unfold ft_v
  rw [h, ((hX t).1 ht).2 hn]; exact us_b00
theorem fe_argC {N f g k s a b : Nat} {G : List Nat} {u : Int32} {ts : List (Int32 × Int32 × Int32)} {V : Nat → Int32} {Vs : List (Nat → Int32)} {S : Nat → Int32} (hH : H ≤ 200) (IH : ft_C h0 L H hl nd N) (w : wf_N (h0 26) (h0 27) (h0 28) (h0 29) (h0 30) nd N f g k s a b G) (hk : k < 4000) (hG : ∀ t ∈ G, L ≤ t ∧ t < a) (hL : L ≤ a) (hb : b ≤ H) (hu : u ∈ us_codes) (hv : vs_ok V S) (hz : ∀ t, a ≤ t → t < b → V t = 0) (h1 : ts.length + (k + 1 - s) + 5 * g + 1 ≤ 4000) (h2 : Vs.length + 2 * g < 82) : fe h0 L H hl (7 * (k + 1 - s) + 1) ((1, nI k, u) :: ts) ts V Vs S (ft_a (h0 26) (h0 27) (ft (h0 26) (h0 27) (h0 28) (h0 29) (h0 30) (h0 20) (h0 36) N) k u) := by
  refine fe_arg _ hH hk (by omega) (by omega) hv (fun e => ?_) (IH _ _ _ _ _ _ _ _ _ _ _ _ w hk hG hL hb (us_dm_7 _ hu) hv hz h1 h2)
  obtain ⟨t, e1, e2⟩ := wf_thing w e
  have := hG t e2
  have := wf_ord w
  exact ⟨t, e1, by omega, by omega⟩
theorem fe_none {k : Nat} {D : Int32} {ts : List (Int32 × Int32 × Int32)} {V : Nat → Int32} {Vs : List (Nat → Int32)} {S : Nat → Int32} (hH : H ≤ 200) (hk : k < 4000) (hlen : ts.length < 4000) (hv : vs_ok V S) (h : h0 26 k = 0 ∨ h0 26 k = 2) : fe h0 L H hl 1 ((0, nI k, D) :: ts) ts V Vs S ft_z := fe_pre (fi_turn hH hlen (fi_PV (fv_none hk h))) (fe_z hH hv)
theorem fe_pair {N f g k s a b : Nat} {G : List Nat} {D : Int32} {ts : List (Int32 × Int32 × Int32)} {V : Nat → Int32} {Vs : List (Nat → Int32)} {S : Nat → Int32} {f' g' i j c : Nat} (hH : H ≤ 200) (hR : ∀ i, h0 36 i ∈ us_codes) (IH : ft_C h0 L H hl nd N) (hk : k < 4000) (hG : ∀ t ∈ G, L ≤ t ∧ t < a) (hL : L ≤ a) (hb : b ≤ H) (hv : vs_ok V S) (hz : ∀ t, a ≤ t → t < b → V t = 0) (h1 : ts.length + (k + 1 - s) + 5 * g + 1 ≤ 4000) (h2 : Vs.length + 2 * g < 82) (h : h0 26 k = 3) (q1 : f' < f) (q2 : g' < g) (q3 : h0 28 k = nI i) (q4 : h0 29 k = nI j) (e : k = j + 1) (w1 : wf_N (h0 26) (h0 27) (h0 28) (h0 29) (h0 30) nd N f' g' i s a c G) (w2 : wf_N (h0 26) (h0 27) (h0 28) (h0 29) (h0 30) nd N f' g' j (i + 1) c b G) :
    fe h0 L H hl (7 * (k + 1 - s)) ((0, nI k, D) :: ts) ts V Vs S (if D = 0 then ft_z else ft_p (ft_a (h0 26) (h0 27) (ft (h0 26) (h0 27) (h0 28) (h0 29) (h0 30) (h0 20) (h0 36) N) i 20) (ft_a (h0 26) (h0 27) (ft (h0 26) (h0 27) (h0 28) (h0 29) (h0 30) (h0 20) (h0 36) N) j 20)) := by
  have o1 := wf_ord w1
  have o2 := wf_ord w2
  have hG2 : ∀ t ∈ G, L ≤ t ∧ t < c := fun t ht => ⟨(hG t ht).1, by have := (hG t ht).2; omega⟩
  have p := fi_turn (L := L) (hl := hl) (Vs := V :: Vs) (S := S) hH (by omega) (fi_PV (fv_pair (D := D) (ts := ts) hk (by omega) h))
  by_cases c0 : D = 0
  · rw [if_pos c0] at p ⊢
    exact fe_le (by omega) (fe_pre p (fe_z hH hv))
  rw [if_neg c0] at p ⊢
  rw [q3, q4] at p
  have X2 := ft_ga (ft (h0 26) (h0 27) (h0 28) (h0 29) (h0 30) (h0 20) (h0 36) N) (fun t ht => (hG2 t ht).2) (by omega) w2 (fun D hD => ft_good hR N _ _ _ _ _ _ _ D w2 (by omega) (fun t ht => (hG2 t ht).2) (by omega) hD) us_c20
  have X1 := ft_ga (ft (h0 26) (h0 27) (h0 28) (h0 29) (h0 30) (h0 20) (h0 36) N) (fun t ht => (hG t ht).2) (by omega) w1 (fun D hD => ft_good hR N _ _ _ _ _ _ _ D w1 (by omega) (fun t ht => (hG t ht).2) (by omega) hD) us_c20
  have a2 := fe_argC (u := 20) (ts := (1, nI i, 20) :: ts) hH IH w2 (by omega) hG2 (by omega) hb us_c20 hv (fun t h3 h4 => hz t (by omega) h4) (by rw [List.length_cons]; omega) (by omega) (Vs := Vs)
  have a1 := fe_argC (u := 20) (ts := ts) hH IH w1 (by omega) hG hL (by omega) us_c20 (vs_next hv X2) (fun t h3 h4 => ft_vz (hz t h3 (by omega)) X2 (by omega) (fun e => by have := (hG t e).2; omega)) (by omega) (by omega) (Vs := Vs)
  have r := fe_pre p (fe_seq hH hv X2 X1 a2 a1)
  obtain ⟨m, r1, r2⟩ := r
  refine ⟨m, by omega, fi_Rc r2 (fun t _ h => ?_) (fun t h => ?_)⟩
  · unfold ft_v
    rw [ft_pl (by omega), ft_pl (by omega), us_both_comm _ ((X2 t).1 (by omega)).1 _ ((X1 t).1 (by omega)).1]
  · unfold ft_w
    rw [ft_ph, ft_ph, us_max_comm (ft_a _ _ _ j 20 _)]
theorem fe_op {N f g k s a b : Nat} {G : List Nat} {D : Int32} {ts : List (Int32 × Int32 × Int32)} {V : Nat → Int32} {Vs : List (Nat → Int32)} {S : Nat → Int32} {f1 f' i j c : Nat} (hH : H ≤ 200) (hR : ∀ i, h0 36 i ∈ us_codes) (IH : ft_C h0 L H hl nd N) (hk : k < 4000) (hG : ∀ t ∈ G, L ≤ t ∧ t < a) (hL : L ≤ a) (hb : b ≤ H) (hv : vs_ok V S) (hz : ∀ t, a ≤ t → t < b → V t = 0) (h1 : ts.length + (k + 1 - s) + 5 * g + 1 ≤ 4000) (h2 : Vs.length + 2 * g < 82) (h : h0 26 k = 8) (q1 : f1 ≤ f) (q2 : f' < f) (q3 : h0 28 k = nI i) (q4 : h0 29 k = nI j) (e : k = j + 1) (w1 : wf_N (h0 26) (h0 27) (h0 28) (h0 29) (h0 30) nd N f1 g i s a c G) (w2 : wf_N (h0 26) (h0 27) (h0 28) (h0 29) (h0 30) nd N f' g j (i + 1) c b G) :
    fe h0 L H hl (7 * (k + 1 - s)) ((0, nI k, D) :: ts) ts V Vs S (ft_p (ft (h0 26) (h0 27) (h0 28) (h0 29) (h0 30) (h0 20) (h0 36) N i 0) (ft (h0 26) (h0 27) (h0 28) (h0 29) (h0 30) (h0 20) (h0 36) N j 0)) := by
  have o1 := wf_ord w1
  have o2 := wf_ord w2
  have hG2 : ∀ t ∈ G, L ≤ t ∧ t < c := fun t ht => ⟨(hG t ht).1, by have := (hG t ht).2; omega⟩
  have p := fi_turn (L := L) (hl := hl) (Vs := V :: Vs) (S := S) hH (by omega) (fi_PV (fv_op (D := D) (ts := ts) hk (by omega) h))
  rw [q3, q4] at p
  have X2 := ft_good (SZ := h0 20) hR N _ _ _ _ _ _ _ 0 w2 (by omega) (fun t ht => (hG2 t ht).2) (by omega) (by decide)
  have X1 := ft_good (SZ := h0 20) hR N _ _ _ _ _ _ _ 0 w1 (by omega) (fun t ht => (hG t ht).2) (by omega) (by decide)
  have a2 := IH _ _ _ _ _ _ _ 0 ((0, nI i, 0) :: ts) V Vs S w2 (by omega) hG2 (by omega) hb (by decide) hv (fun t h3 h4 => hz t (by omega) h4) (by rw [List.length_cons]; omega) (by omega)
  have a1 := IH _ _ _ _ _ _ _ 0 ts _ Vs _ w1 (by omega) hG hL (by omega) (by decide) (vs_next hv X2) (fun t h3 h4 => ft_vz (hz t h3 (by omega)) X2 (by omega) (fun e => by have := (hG t e).2; omega)) (by omega) (by omega)
  obtain ⟨m, r1, r2⟩ := fe_pre p (fe_seq hH hv X2 X1 a2 a1)
  refine ⟨m, by omega, fi_Rc r2 (fun t _ h => ?_) (fun t h => ?_)⟩
  · unfold ft_v
    rw [ft_pl (by omega), ft_pl (by omega), us_both_comm _ ((X2 t).1 (by omega)).1 _ ((X1 t).1 (by omega)).1]
  · unfold ft_w
    rw [ft_ph, ft_ph, us_max_comm (ft _ _ _ _ _ _ _ N j 0 _)]
end EA
