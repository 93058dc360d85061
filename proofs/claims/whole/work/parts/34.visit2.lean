/-! the class foretells what ft says: LET, SPLIT, IF, LAMBDA -/
section EA
variable {h0 : Nat → Nat → Int32} {L H : Nat} {hl : Nat → Nat → Int64} {nd : Nat} {N f g k s a b : Nat} {G : List Nat} {D : Int32} {ts : List (Int32 × Int32 × Int32)} {V : Nat → Int32} {Vs : List (Nat → Int32)} {S : Nat → Int32}
theorem fe_let {f' g' i j c : Nat} (hH : H ≤ 200) (hR : ∀ i, h0 36 i ∈ us_codes) (IH : ft_C h0 L H hl nd N) (hk : k < 4000) (hG : ∀ t ∈ G, L ≤ t ∧ t < a) (hL : L ≤ a) (hb : b ≤ H) (hD : D ∈ us_dm) (hv : vs_ok V S) (hz : ∀ t, a ≤ t → t < b → V t = 0) (h1 : ts.length + (k + 1 - s) + 5 * g + 1 ≤ 4000) (h2 : Vs.length + 2 * g < 82) (h : h0 26 k = 5) (q1 : f' < f) (q2 : g' < g) (q0 : h0 27 k = nI a) (q3 : h0 28 k = nI i) (q4 : h0 29 k = nI j) (e : k = j + 1) (w1 : wf_N (h0 26) (h0 27) (h0 28) (h0 29) (h0 30) nd N f' g' i s (a + 1) c G) (w2 : wf_N (h0 26) (h0 27) (h0 28) (h0 29) (h0 30) nd N f' g' j (i + 1) c b (a :: G)) :
    fe h0 L H hl (7 * (k + 1 - s)) ((0, nI k, D) :: ts) ts V Vs S (ft_p (ft_t (ft (h0 26) (h0 27) (h0 28) (h0 29) (h0 30) (h0 20) (h0 36) N j D) a) (if ft (h0 26) (h0 27) (h0 28) (h0 29) (h0 30) (h0 20) (h0 36) N j D a = 0 then ft_z else ft (h0 26) (h0 27) (h0 28) (h0 29) (h0 30) (h0 20) (h0 36) N i (ft (h0 26) (h0 27) (h0 28) (h0 29) (h0 30) (h0 20) (h0 36) N j D a &&& 7))) := by
  have o1 := wf_ord w1
  have o2 := wf_ord w2
  have hG2 : ∀ t ∈ a :: G, L ≤ t ∧ t < c := fun t ht => (List.mem_cons.mp ht).elim (fun e => by omega) (fun e => by have := hG t e; omega)
  have p := fi_turn (L := L) (hl := hl) (Vs := V :: Vs) (S := S) hH (by omega) (fi_PV (fv_let (D := D) (ts := ts) hk (by omega) h))
  rw [q4] at p
  have X2 := ft_good (SZ := h0 20) hR N _ _ _ _ _ _ _ D w2 (by omega) (fun t ht => (hG2 t ht).2) (by omega) hD
  obtain ⟨m2, c1, a2⟩ := IH _ _ _ _ _ _ _ D ((2, nI k, 0) :: ts) V Vs S w2 (by omega) hG2 (by omega) hb hD hv (fun t h3 h4 => hz t (by omega) h4) (by rw [List.length_cons]; omega) (by omega)
  have za := hz a (Nat.le_refl _) (by omega)
  have p2 := fi_turn (L := L) (hl := hl) (S := ft_w S (ft (h0 26) (h0 27) (h0 28) (h0 29) (h0 30) (h0 20) (h0 36) N j D)) hH (by omega) (fp_let (D := 0) (ts := ts) (Vs := Vs) (V := ft_v V (ft (h0 26) (h0 27) (h0 28) (h0 29) (h0 30) (h0 20) (h0 36) N j D)) hH hk (by omega) (by omega) q0 (by omega))
  have r := fi_Rc (fi_trans (fi_trans p a2) p2) (V'' := ft_v V (ft_t (ft (h0 26) (h0 27) (h0 28) (h0 29) (h0 30) (h0 20) (h0 36) N j D) a)) (S'' := ft_w S (ft_t (ft (h0 26) (h0 27) (h0 28) (h0 29) (h0 30) (h0 20) (h0 36) N j D) a)) (fun t _ ht => ft_vt za hv (by omega) (by omega)) (fun t ht => ft_wt za X2 ht (by omega))
  rw [ft_va za X2 (by omega)] at r
  have X3 := ft_gt (by omega) X2
  by_cases c0 : ft (h0 26) (h0 27) (h0 28) (h0 29) (h0 30) (h0 20) (h0 36) N j D a = 0
  · rw [if_pos c0] at r ⊢
    have r2 : fe h0 L H hl (1 + m2 + 1) ((0, nI k, D) :: ts) ts V Vs S (ft_t (ft (h0 26) (h0 27) (h0 28) (h0 29) (h0 30) (h0 20) (h0 36) N j D) a) := ⟨_, Nat.le_refl _, r⟩
    exact fe_le (by omega) (fe_seq hH hv X3 (ft_gz G) r2 (fe_z hH (vs_next hv X3)))
  · rw [if_neg c0] at r ⊢
    rw [q3] at r
    have r2 : fe h0 L H hl (1 + m2 + 1) ((0, nI k, D) :: ts) ((0, nI i, ft (h0 26) (h0 27) (h0 28) (h0 29) (h0 30) (h0 20) (h0 36) N j D a &&& 7) :: ts) V Vs S (ft_t (ft (h0 26) (h0 27) (h0 28) (h0 29) (h0 30) (h0 20) (h0 36) N j D) a) := ⟨_, Nat.le_refl _, r⟩
    have d1 := us_dm_7 _ ((X2 a).1 (by omega)).1
    have X1 := ft_good (SZ := h0 20) hR N _ _ _ _ _ _ _ (ft (h0 26) (h0 27) (h0 28) (h0 29) (h0 30) (h0 20) (h0 36) N j D a &&& 7) w1 (by omega) (fun t ht => Nat.lt_succ_of_lt (hG t ht).2) (by omega) d1
    have a1 := IH _ _ _ _ _ _ _ (ft (h0 26) (h0 27) (h0 28) (h0 29) (h0 30) (h0 20) (h0 36) N j D a &&& 7) ts _ Vs _ w1 (by omega) (fun t ht => ⟨(hG t ht).1, Nat.lt_succ_of_lt (hG t ht).2⟩) (by omega) (by omega) d1 (vs_next hv X3) (fun t h3 h4 => ft_vz (hz t (by omega) (by omega)) X3 (by omega) (fun e => by have := (hG t e).2; omega)) (by omega) (by omega)
    exact fe_le (by omega) (fe_seq hH hv X3 X1 r2 a1)
theorem ft_tl {X : Nat → Int32} {a t : Nat} (h : t < 200) : ft_t X a t = if t = a then 0 else X t := by
  unfold ft_t
  by_cases c : t = a
  · rw [if_pos c, if_pos c]
  · rw [if_neg c, if_neg c, if_neg (by omega)]
theorem ft_vt2 {X : Nat → Int32} {a t : Nat} (hv : V a = 0) (hv2 : V (a + 1) = 0) (h : t < 200) (ha : a + 1 < 200) : fi_u (fi_u (ft_v V X) a 0) (a + 1) 0 t = ft_v V (ft_t (ft_t X a) (a + 1)) t := by
  unfold fi_u ft_v
  rw [ft_tl h, ft_tl h]
  by_cases c : t = a + 1
  · rw [if_pos c, if_pos c, c, hv2]; decide
  · rw [if_neg c, if_neg c]
    by_cases c2 : t = a
    · rw [if_pos c2, if_pos c2, c2, hv]; decide
    · rw [if_neg c2, if_neg c2]
theorem ft_tb {X : Nat → Int32} {a : Nat} (ha : a + 1 < 200) : ft_t X a (a + 1) = X (a + 1) := by
  unfold ft_t
  rw [if_neg (by omega), if_neg (by omega)]
theorem ft_wt2 {X : Nat → Int32} {a t : Nat} {x y : Int32} (hx : x = X a) (hy : y = X (a + 1)) (h : t < 200) (ha : a + 1 < 200) : fi_m (fi_m (ft_w S X) a x) (a + 1) y t = ft_w S (ft_t (ft_t X a) (a + 1)) t := by
  subst hx hy
  unfold ft_w
  rw [show ft_t (ft_t X a) (a + 1) (200 + t) = if t = a + 1 then us_max (ft_t X a (200 + t)) (ft_t X a (a + 1) >>> (3 &&& 31)) else ft_t X a (200 + t) by
    conv => lhs; unfold ft_t
    rw [if_neg (by omega)]
    by_cases c : t = a + 1
    · rw [if_pos (by omega), if_pos c]; rfl
    · rw [if_neg (by omega), if_neg c]; rfl]
  rw [ft_tb ha]
  rw [show ft_t X a (200 + t) = if t = a then us_max (X (200 + t)) (X a >>> (3 &&& 31)) else X (200 + t) by
    unfold ft_t
    rw [if_neg (by omega)]
    by_cases c : t = a
    · rw [if_pos (by omega), if_pos c]
    · rw [if_neg (by omega), if_neg c]]
  unfold fi_m fi_u
  by_cases c : t = a + 1
  · rw [if_pos c, if_pos c, if_neg (by omega), if_neg (by omega), c]; exact us_max_assoc _ _ _
  · rw [if_neg c, if_neg c]
    by_cases c2 : t = a
    · rw [if_pos c2, if_pos c2, c2]; exact us_max_assoc _ _ _
    · rw [if_neg c2, if_neg c2]
theorem fe_split {f' g' i j c : Nat} (hH : H ≤ 200) (hR : ∀ i, h0 36 i ∈ us_codes) (IH : ft_C h0 L H hl nd N) (hk : k < 4000) (hG : ∀ t ∈ G, L ≤ t ∧ t < a) (hL : L ≤ a) (hb : b ≤ H) (hD : D ∈ us_dm) (hv : vs_ok V S) (hz : ∀ t, a ≤ t → t < b → V t = 0) (h1 : ts.length + (k + 1 - s) + 5 * g + 1 ≤ 4000) (h2 : Vs.length + 2 * g < 82) (h : h0 26 k = 7) (q1 : f' < f) (q2 : g' < g) (q0 : h0 27 k = nI c) (q3 : h0 28 k = nI i) (q4 : h0 29 k = nI j) (e : k = j + 1) (w1 : wf_N (h0 26) (h0 27) (h0 28) (h0 29) (h0 30) nd N f' g' i s a c G) (w2 : wf_N (h0 26) (h0 27) (h0 28) (h0 29) (h0 30) nd N f' g' j (i + 1) (c + 2) b ((c + 1) :: c :: G)) :
    fe h0 L H hl (7 * (k + 1 - s)) ((0, nI k, D) :: ts) ts V Vs S (ft_p (ft_t (ft_t (ft (h0 26) (h0 27) (h0 28) (h0 29) (h0 30) (h0 20) (h0 36) N j D) c) (c + 1)) (ft (h0 26) (h0 27) (h0 28) (h0 29) (h0 30) (h0 20) (h0 36) N i (if ft (h0 26) (h0 27) (h0 28) (h0 29) (h0 30) (h0 20) (h0 36) N j D c + ft (h0 26) (h0 27) (h0 28) (h0 29) (h0 30) (h0 20) (h0 36) N j D (c + 1) = 0 then 0 else 4))) := by
  have o1 := wf_ord w1
  have o2 := wf_ord w2
  have hG2 : ∀ t ∈ (c + 1) :: c :: G, L ≤ t ∧ t < c + 2 := fun t ht => (List.mem_cons.mp ht).elim (fun e => by omega) (fun e => (List.mem_cons.mp e).elim (fun e => by omega) (fun e => by have := hG t e; omega))
  have p := fi_turn (L := L) (hl := hl) (Vs := V :: Vs) (S := S) hH (by omega) (fi_PV (fv_split (D := D) (ts := ts) hk (by omega) h))
  rw [q4] at p
  have X2 := ft_good (SZ := h0 20) hR N _ _ _ _ _ _ _ D w2 (by omega) (fun t ht => (hG2 t ht).2) (by omega) hD
  obtain ⟨m2, c1, a2⟩ := IH _ _ _ _ _ _ _ D ((3, nI k, 0) :: ts) V Vs S w2 (by omega) hG2 (by omega) hb hD hv (fun t h3 h4 => hz t (by omega) h4) (by rw [List.length_cons]; omega) (by omega)
  have za := hz c (by omega) (by omega)
  have zb := hz (c + 1) (by omega) (by omega)
  have p2 := fi_turn (L := L) (hl := hl) (S := ft_w S (ft (h0 26) (h0 27) (h0 28) (h0 29) (h0 30) (h0 20) (h0 36) N j D)) hH (by omega) (fp_split (D := 0) (ts := ts) (Vs := Vs) (V := ft_v V (ft (h0 26) (h0 27) (h0 28) (h0 29) (h0 30) (h0 20) (h0 36) N j D)) hH hk (by omega) (by omega) q0 (by omega))
  have r := fi_Rc (fi_trans (fi_trans p a2) p2) (V'' := ft_v V (ft_t (ft_t (ft (h0 26) (h0 27) (h0 28) (h0 29) (h0 30) (h0 20) (h0 36) N j D) c) (c + 1))) (S'' := ft_w S (ft_t (ft_t (ft (h0 26) (h0 27) (h0 28) (h0 29) (h0 30) (h0 20) (h0 36) N j D) c) (c + 1))) (fun t _ ht => ft_vt2 za zb (by omega) (by omega)) (fun t ht => ft_wt2 (ft_va za X2 (by omega)) (ft_va zb X2 (by omega)) ht (by omega))
  rw [ft_va za X2 (by omega), ft_va zb X2 (by omega), q3] at r
  have X4 : ft_g (c :: (c + 1) :: G) (ft (h0 26) (h0 27) (h0 28) (h0 29) (h0 30) (h0 20) (h0 36) N j D) := ft_gi (fun t ht => by
    simp only [List.mem_cons] at ht ⊢
    rcases ht with h | h | h
    · exact Or.inr (Or.inl h)
    · exact Or.inl h
    · exact Or.inr (Or.inr h)) X2
  have X3 : ft_g G (ft_t (ft_t (ft (h0 26) (h0 27) (h0 28) (h0 29) (h0 30) (h0 20) (h0 36) N j D) c) (c + 1)) := ft_gt (by omega) (ft_gt (by omega) X4)
  have d1 : (if ft (h0 26) (h0 27) (h0 28) (h0 29) (h0 30) (h0 20) (h0 36) N j D c + ft (h0 26) (h0 27) (h0 28) (h0 29) (h0 30) (h0 20) (h0 36) N j D (c + 1) = 0 then 0 else 4) ∈ us_dm := by split <;> decide
  have X1 := ft_good (SZ := h0 20) hR N _ _ _ _ _ _ _ (if ft (h0 26) (h0 27) (h0 28) (h0 29) (h0 30) (h0 20) (h0 36) N j D c + ft (h0 26) (h0 27) (h0 28) (h0 29) (h0 30) (h0 20) (h0 36) N j D (c + 1) = 0 then 0 else 4) w1 (by omega) (fun t ht => (hG t ht).2) (by omega) d1
  have a1 := IH _ _ _ _ _ _ _ (if ft (h0 26) (h0 27) (h0 28) (h0 29) (h0 30) (h0 20) (h0 36) N j D c + ft (h0 26) (h0 27) (h0 28) (h0 29) (h0 30) (h0 20) (h0 36) N j D (c + 1) = 0 then 0 else 4) ts _ Vs _ w1 (by omega) hG (by omega) (by omega) d1 (vs_next hv X3) (fun t h3 h4 => ft_vz (hz t (by omega) (by omega)) X3 (by omega) (fun e => by have := (hG t e).2; omega)) (by omega) (by omega)
  have r2 : fe h0 L H hl (1 + m2 + 1) ((0, nI k, D) :: ts) ((0, nI i, if ft (h0 26) (h0 27) (h0 28) (h0 29) (h0 30) (h0 20) (h0 36) N j D c + ft (h0 26) (h0 27) (h0 28) (h0 29) (h0 30) (h0 20) (h0 36) N j D (c + 1) = 0 then 0 else 4) :: ts) V Vs S (ft_t (ft_t (ft (h0 26) (h0 27) (h0 28) (h0 29) (h0 30) (h0 20) (h0 36) N j D) c) (c + 1)) := ⟨_, Nat.le_refl _, r⟩
  exact fe_le (by omega) (fe_seq hH hv X3 X1 r2 a1)
theorem ft_v0 {X : Nat → Int32} {G : List Nat} {t : Nat} (hX : ft_g G X) (h : t < 200) : ft_v (fun _ => 0) X t = X t := (us_both_zero _ ((hX t).1 h).1).1
theorem fe_if {f' g' i j l c e : Nat} (hH : H ≤ 200) (hLH : L ≤ H) (hR : ∀ i, h0 36 i ∈ us_codes) (IH : ft_C h0 L H hl nd N) (hk : k < 4000) (hG : ∀ t ∈ G, L ≤ t ∧ t < a) (hL : L ≤ a) (hb : b ≤ H) (hD : D ∈ us_dm) (hv : vs_ok V S) (hz : ∀ t, a ≤ t → t < b → V t = 0) (h1 : ts.length + (k + 1 - s) + 5 * g + 1 ≤ 4000) (h2 : Vs.length + 2 * g < 82) (h : h0 26 k = 6) (q1 : f' < f) (q2 : g' < g) (q3 : h0 28 k = nI i) (q4 : h0 29 k = nI j) (q5 : h0 30 k = nI l) (e0 : k = l + 1) (w1 : wf_N (h0 26) (h0 27) (h0 28) (h0 29) (h0 30) nd N f' g' i s a c G) (w2 : wf_N (h0 26) (h0 27) (h0 28) (h0 29) (h0 30) nd N f' g' j (i + 1) c e G) (w3 : wf_N (h0 26) (h0 27) (h0 28) (h0 29) (h0 30) nd N f' g' l (j + 1) e b G) :
    fe h0 L H hl (7 * (k + 1 - s)) ((0, nI k, D) :: ts) ts V Vs S (ft_p (ft (h0 26) (h0 27) (h0 28) (h0 29) (h0 30) (h0 20) (h0 36) N i 0) (ft_e (ft (h0 26) (h0 27) (h0 28) (h0 29) (h0 30) (h0 20) (h0 36) N l D) (ft (h0 26) (h0 27) (h0 28) (h0 29) (h0 30) (h0 20) (h0 36) N j D))) := by
  have o1 := wf_ord w1
  have o2 := wf_ord w2
  have o3 := wf_ord w3
  have hG2 : ∀ t ∈ G, L ≤ t ∧ t < c := fun t ht => ⟨(hG t ht).1, by have := (hG t ht).2; omega⟩
  have hG3 : ∀ t ∈ G, L ≤ t ∧ t < e := fun t ht => ⟨(hG t ht).1, by have := (hG t ht).2; omega⟩
  have X1 := ft_good (SZ := h0 20) hR N _ _ _ _ _ _ _ 0 w1 (by omega) (fun t ht => (hG t ht).2) (by omega) (by decide)
  have X2 := ft_good (SZ := h0 20) hR N _ _ _ _ _ _ _ D w2 (by omega) (fun t ht => (hG2 t ht).2) (by omega) hD
  have X3 := ft_good (SZ := h0 20) hR N _ _ _ _ _ _ _ D w3 (by omega) (fun t ht => (hG3 t ht).2) (by omega) hD
  have p := fi_turn (L := L) (hl := hl) (Vs := V :: Vs) (S := S) hH (by omega) (fi_PV (fv_if (D := D) (ts := ts) hk (by omega) h))
  rw [q3, q4, q5] at p
  obtain ⟨m1, c1, a1⟩ := IH _ _ _ _ _ _ _ 0 ((6, nI k, 0) :: (0, nI j, D) :: (6, nI k, 0) :: (0, nI l, D) :: (7, nI k, 0) :: ts) V Vs S w1 (by omega) hG hL (by omega) (by decide) hv (fun t h3 h4 => hz t (by omega) (by omega)) (by simp only [List.length_cons]; omega) (by omega)
  have v1 := vs_next hv X1
  have p1 := fi_turn (L := L) (hl := hl) (S := ft_w S (ft (h0 26) (h0 27) (h0 28) (h0 29) (h0 30) (h0 20) (h0 36) N i 0)) hH (by simp only [List.length_cons]; omega) (fp_open (k := k) (D := 0) (ts := (0, nI j, D) :: (6, nI k, 0) :: (0, nI l, D) :: (7, nI k, 0) :: ts) (Vs := ft_v V (ft (h0 26) (h0 27) (h0 28) (h0 29) (h0 30) (h0 20) (h0 36) N i 0) :: Vs) (h0 := h0) hH hLH (by rw [List.length_cons]; omega))
  obtain ⟨m2, c2, a2⟩ := IH _ _ _ _ _ _ _ D ((6, nI k, 0) :: (0, nI l, D) :: (7, nI k, 0) :: ts) (fun _ => 0) (ft_v V (ft (h0 26) (h0 27) (h0 28) (h0 29) (h0 30) (h0 20) (h0 36) N i 0) :: Vs) (ft_w S (ft (h0 26) (h0 27) (h0 28) (h0 29) (h0 30) (h0 20) (h0 36) N i 0)) w2 (by omega) hG2 (by omega) (by omega) hD (vs_zero v1) (fun _ _ _ => rfl) (by simp only [List.length_cons]; omega) (by simp only [List.length_cons]; omega)
  have v2 := vs_next (vs_zero v1) X2
  have p2 := fi_turn (L := L) (hl := hl) (S := ft_w (ft_w S (ft (h0 26) (h0 27) (h0 28) (h0 29) (h0 30) (h0 20) (h0 36) N i 0)) (ft (h0 26) (h0 27) (h0 28) (h0 29) (h0 30) (h0 20) (h0 36) N j D)) hH (by simp only [List.length_cons]; omega) (fp_open (k := k) (D := 0) (ts := (0, nI l, D) :: (7, nI k, 0) :: ts) (Vs := ft_v (fun _ => 0) (ft (h0 26) (h0 27) (h0 28) (h0 29) (h0 30) (h0 20) (h0 36) N j D) :: ft_v V (ft (h0 26) (h0 27) (h0 28) (h0 29) (h0 30) (h0 20) (h0 36) N i 0) :: Vs) (h0 := h0) hH hLH (by simp only [List.length_cons]; omega))
  obtain ⟨m3, c3, a3⟩ := IH _ _ _ _ _ _ _ D ((7, nI k, 0) :: ts) (fun _ => 0) (ft_v (fun _ => 0) (ft (h0 26) (h0 27) (h0 28) (h0 29) (h0 30) (h0 20) (h0 36) N j D) :: ft_v V (ft (h0 26) (h0 27) (h0 28) (h0 29) (h0 30) (h0 20) (h0 36) N i 0) :: Vs) (ft_w (ft_w S (ft (h0 26) (h0 27) (h0 28) (h0 29) (h0 30) (h0 20) (h0 36) N i 0)) (ft (h0 26) (h0 27) (h0 28) (h0 29) (h0 30) (h0 20) (h0 36) N j D)) w3 (by omega) hG3 (by omega) (by omega) hD (vs_zero v2) (fun _ _ _ => rfl) (by simp only [List.length_cons]; omega) (by simp only [List.length_cons]; omega)
  have p3 := fi_turn (L := L) (hl := hl) (S := ft_w (ft_w (ft_w S (ft (h0 26) (h0 27) (h0 28) (h0 29) (h0 30) (h0 20) (h0 36) N i 0)) (ft (h0 26) (h0 27) (h0 28) (h0 29) (h0 30) (h0 20) (h0 36) N j D)) (ft (h0 26) (h0 27) (h0 28) (h0 29) (h0 30) (h0 20) (h0 36) N l D)) hH (by omega) (fp_either (k := k) (D := 0) (ts := ts) (V2 := ft_v (fun _ => 0) (ft (h0 26) (h0 27) (h0 28) (h0 29) (h0 30) (h0 20) (h0 36) N l D)) (V1 := ft_v (fun _ => 0) (ft (h0 26) (h0 27) (h0 28) (h0 29) (h0 30) (h0 20) (h0 36) N j D)) (V := ft_v V (ft (h0 26) (h0 27) (h0 28) (h0 29) (h0 30) (h0 20) (h0 36) N i 0)) (Vs := Vs) (h0 := h0) hH hLH (by omega))
  refine ⟨1 + m1 + 1 + m2 + 1 + m3 + 1, by omega, fi_Rc (fi_trans (fi_trans (fi_trans (fi_trans (fi_trans (fi_trans p a1) p1) a2) p2) a3) p3) (fun t _ ht => ?_) (fun t ht => ?_)⟩
  · rw [ft_v0 X2 (by omega), ft_v0 X3 (by omega)]
    unfold ft_v
    rw [ft_pl (by omega), us_both_assoc _ (hv t (by omega)).1 _ ((X1 t).1 (by omega)).1 _ (us_either_in _ ((X3 t).1 (by omega)).1 _ ((X2 t).1 (by omega)).1)]
    rw [show ft_e (ft (h0 26) (h0 27) (h0 28) (h0 29) (h0 30) (h0 20) (h0 36) N l D) (ft (h0 26) (h0 27) (h0 28) (h0 29) (h0 30) (h0 20) (h0 36) N j D) t = us_either (ft (h0 26) (h0 27) (h0 28) (h0 29) (h0 30) (h0 20) (h0 36) N l D t) (ft (h0 26) (h0 27) (h0 28) (h0 29) (h0 30) (h0 20) (h0 36) N j D t) from if_pos (by omega)]
  · unfold ft_w
    rw [ft_ph, show ft_e (ft (h0 26) (h0 27) (h0 28) (h0 29) (h0 30) (h0 20) (h0 36) N l D) (ft (h0 26) (h0 27) (h0 28) (h0 29) (h0 30) (h0 20) (h0 36) N j D) (200 + t) = us_max (ft (h0 26) (h0 27) (h0 28) (h0 29) (h0 30) (h0 20) (h0 36) N l D (200 + t)) (ft (h0 26) (h0 27) (h0 28) (h0 29) (h0 30) (h0 20) (h0 36) N j D (200 + t)) from if_neg (by omega), us_max_assoc, us_max_assoc, us_max_comm (ft (h0 26) (h0 27) (h0 28) (h0 29) (h0 30) (h0 20) (h0 36) N l D (200 + t))]
end EA
