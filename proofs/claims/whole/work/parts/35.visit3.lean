/-! the class foretells what ft says: LAMBDA, APPLICATION, all -/
theorem ft_pa {X Y Z : Nat → Int32} {G G' G'' : List Nat} (hX : ft_g G X) (hY : ft_g G' Y) (hZ : ft_g G'' Z) : ft_p (ft_p X Y) Z = ft_p X (ft_p Y Z) := by
  funext t
  unfold ft_p
  by_cases c : t < 200
  · simp only [if_pos c]
    exact us_both_assoc _ ((hX t).1 c).1 _ ((hY t).1 c).1 _ ((hZ t).1 c).1
  · simp only [if_neg c]
    exact us_max_assoc _ _ _
theorem ft_pc {X Y : Nat → Int32} {G G' : List Nat} (hX : ft_g G X) (hY : ft_g G' Y) : ft_p X Y = ft_p Y X := by
  funext t
  unfold ft_p
  by_cases c : t < 200
  · simp only [if_pos c]
    exact us_both_comm _ ((hX t).1 c).1 _ ((hY t).1 c).1
  · simp only [if_neg c]
    exact us_max_comm _ _
theorem ft_pz {X : Nat → Int32} {G : List Nat} (hX : ft_g G X) : ft_p ft_z X = X ∧ ft_p X ft_z = X := by
  refine ⟨funext fun t => ?_, funext fun t => ?_⟩
  · unfold ft_p ft_z
    by_cases c : t < 200
    · simp only [if_pos c]; exact (us_both_zero _ ((hX t).1 c).1).1
    · simp only [if_neg c]; exact (us_sn_0 _ ((hX t).2 (by omega))).2
  · unfold ft_p ft_z
    by_cases c : t < 200
    · simp only [if_pos c]; exact (us_both_zero _ ((hX t).1 c).1).2
    · simp only [if_neg c]; exact (us_sn_0 _ ((hX t).2 (by omega))).1
section EA
variable {h0 : Nat → Nat → Int32} {L H : Nat} {hl : Nat → Nat → Int64} {nd : Nat} {N f g k s a b : Nat} {G : List Nat} {D : Int32} {ts : List (Int32 × Int32 × Int32)} {V : Nat → Int32} {Vs : List (Nat → Int32)} {S : Nat → Int32}
theorem fe_lam {f' g' j : Nat} (hH : H ≤ 200) (hLH : L ≤ H) (hR : ∀ i, h0 36 i ∈ us_codes) (IH : ft_C h0 L H hl nd N) (hk : k < 4000) (hG : ∀ t ∈ G, L ≤ t ∧ t < a) (hL : L ≤ a) (hb : b ≤ H) (hD : D ∈ us_dm) (hv : vs_ok V S) (hz : ∀ t, a ≤ t → t < b → V t = 0) (h1 : ts.length + (k + 1 - s) + 5 * g + 1 ≤ 4000) (h2 : Vs.length + 2 * g < 82) (h : h0 26 k = 4) (q1 : f' < f) (q2 : g' < g) (q0 : h0 27 k = nI a) (q3 : h0 28 k = nI j) (e : k = j + 1) (w2 : wf_N (h0 26) (h0 27) (h0 28) (h0 29) (h0 30) nd N f' g' j s (a + 2) b ((a + 1) :: G)) :
    fe h0 L H hl (7 * (k + 1 - s)) ((0, nI k, D) :: ts) ts V Vs S (if D = 0 then ft_z else if D = 4 then ft_p (ft_1 (200 + a) 2) (ft_m (ft_t (ft (h0 26) (h0 27) (h0 28) (h0 29) (h0 30) (h0 20) (h0 36) N j 4) (a + 1))) else ft_p (ft_1 (200 + a) 1) (ft_t (ft (h0 26) (h0 27) (h0 28) (h0 29) (h0 30) (h0 20) (h0 36) N j (D - 1)) (a + 1))) := by
  have o2 := wf_ord w2
  have hG2 : ∀ t ∈ (a + 1) :: G, L ≤ t ∧ t < a + 2 := fun t ht => (List.mem_cons.mp ht).elim (fun e => by omega) (fun e => by have := hG t e; omega)
  by_cases c0 : D = 0
  · subst c0
    rw [if_pos rfl]
    exact fe_le (by omega) (fe_pre (fi_turn hH (by omega) (fi_PV (fv_lam0 hk h))) (fe_z hH hv))
  rw [if_neg c0]
  have sok : ∀ c : Int32, c ∈ ([0, 1, 2] : List Int32) → ∀ t, t < 200 → fi_u S a (us_max (S a) c) t ∈ ([0, 1, 2] : List Int32) := by
    intro c hc t ht
    unfold fi_u
    by_cases x : t = a
    · rw [if_pos x]; exact us_sn_max _ (hv a (by omega)).2 _ hc
    · rw [if_neg x]; exact (hv t ht).2
  have sw : ∀ (c : Int32) (X Y : Nat → Int32) (t : Nat), c ∈ ([0, 1, 2] : List Int32) → ft_g G X → t < 200 → (Y (200 + t) = X (200 + t)) → ft_w (fi_u S a (us_max (S a) c)) X t = ft_w S (ft_p (ft_1 (200 + a) c) Y) t := by
    intro c X Y t hc hX ht hY
    unfold ft_w fi_u
    rw [ft_ph, hY]
    unfold ft_1
    by_cases x : t = a
    · rw [if_pos x, if_pos (by omega), x, us_max_assoc]
    · rw [if_neg x, if_neg (by omega), (us_sn_0 _ ((hX _).2 (by omega))).2]
  by_cases c4 : D = 4
  · subst c4
    rw [if_pos rfl]
    have X2 := ft_good (SZ := h0 20) hR N _ _ _ _ _ _ _ 4 w2 (by omega) (fun t ht => (hG2 t ht).2) (by omega) (by decide)
    have X3 := ft_gt (by omega) X2
    have p := fi_turn (L := L) (hl := hl) (S := S) hH (by omega) (fi_PV (fv_lam4 (V := V) (Vs := Vs) (ts := ts) hH hLH hk (by omega) (by omega) h q0 (by omega)))
    rw [q3] at p
    obtain ⟨m2, c2, a2⟩ := IH _ _ _ _ _ _ _ 4 ((4, nI k, 0) :: (8, nI k, 0) :: ts) (fun _ => 0) (V :: Vs) (fi_u S a (us_max (S a) 2)) w2 (by omega) hG2 (by omega) hb (by decide) (fun t ht => ⟨us_c0, sok 2 (by decide) t ht⟩) (fun _ _ _ => rfl) (by simp only [List.length_cons]; omega) (by simp only [List.length_cons]; omega)
    have p2 := fi_turn (L := L) (hl := hl) (S := ft_w (fi_u S a (us_max (S a) 2)) (ft (h0 26) (h0 27) (h0 28) (h0 29) (h0 30) (h0 20) (h0 36) N j 4)) hH (by simp only [List.length_cons]; omega) (fp_lam (D := 0) (ts := (8, nI k, 0) :: ts) (Vs := V :: Vs) (V := ft_v (fun _ => 0) (ft (h0 26) (h0 27) (h0 28) (h0 29) (h0 30) (h0 20) (h0 36) N j 4)) hH hk (by simp only [List.length_cons]; omega) q0 (by omega))
    have p3 := fi_turn (L := L) (hl := hl) (S := fi_m (ft_w (fi_u S a (us_max (S a) 2)) (ft (h0 26) (h0 27) (h0 28) (h0 29) (h0 30) (h0 20) (h0 36) N j 4)) (a + 1) (ft_v (fun _ => 0) (ft (h0 26) (h0 27) (h0 28) (h0 29) (h0 30) (h0 20) (h0 36) N j 4) (a + 1))) hH (by omega) (fp_many (k := k) (D := 0) (ts := ts) (V1 := fi_u (ft_v (fun _ => 0) (ft (h0 26) (h0 27) (h0 28) (h0 29) (h0 30) (h0 20) (h0 36) N j 4)) (a + 1) 0) (V := V) (Vs := Vs) (h0 := h0) hH hLH (by omega))
    refine ⟨1 + m2 + 1 + 1, by omega, fi_Rc (fi_trans (fi_trans (fi_trans p a2) p2) p3) (fun t _ ht => ?_) (fun t ht => ?_)⟩
    · rw [ft_vt (V := fun _ => 0) rfl (vs_zero hv) (by omega) (by omega), ft_v0 X3 (by omega)]
      unfold ft_v
      rw [ft_pl (by omega), show ft_1 (200 + a) 2 t = 0 from if_neg (by omega), show ft_m (ft_t (ft (h0 26) (h0 27) (h0 28) (h0 29) (h0 30) (h0 20) (h0 36) N j 4) (a + 1)) t = us_many (ft_t (ft (h0 26) (h0 27) (h0 28) (h0 29) (h0 30) (h0 20) (h0 36) N j 4) (a + 1) t) from if_pos (by omega), (us_both_zero _ (us_many_in _ ((X3 t).1 (by omega)).1)).1]
    · rw [ft_wt (V := fun _ => 0) rfl X2 ht (by omega)]
      exact sw 2 _ _ t (by decide) X3 ht (if_neg (by omega))
  · rw [if_neg c4]
    have d1 := us_dm_1 _ hD c0
    have X2 := ft_good (SZ := h0 20) hR N _ _ _ _ _ _ _ (D - 1) w2 (by omega) (fun t ht => (hG2 t ht).2) (by omega) d1
    have X3 := ft_gt (by omega) X2
    have p := fi_turn (L := L) (hl := hl) (Vs := V :: Vs) (S := S) hH (by omega) (fi_PV (fv_lam1 (ts := ts) hH hk (by omega) h q0 (by omega) c0 c4))
    rw [q3] at p
    obtain ⟨m2, c2, a2⟩ := IH _ _ _ _ _ _ _ (D - 1) ((4, nI k, 0) :: ts) V Vs (fi_u S a (us_max (S a) 1)) w2 (by omega) hG2 (by omega) hb d1 (fun t ht => ⟨(hv t ht).1, sok 1 (by decide) t ht⟩) (fun t h3 h4 => hz t (by omega) h4) (by simp only [List.length_cons]; omega) (by omega)
    have p2 := fi_turn (L := L) (hl := hl) (S := ft_w (fi_u S a (us_max (S a) 1)) (ft (h0 26) (h0 27) (h0 28) (h0 29) (h0 30) (h0 20) (h0 36) N j (D - 1))) hH (by omega) (fp_lam (D := 0) (ts := ts) (Vs := Vs) (V := ft_v V (ft (h0 26) (h0 27) (h0 28) (h0 29) (h0 30) (h0 20) (h0 36) N j (D - 1))) hH hk (by omega) q0 (by omega))
    have za := hz (a + 1) (by omega) (by omega)
    refine ⟨1 + m2 + 1, by omega, fi_Rc (fi_trans (fi_trans p a2) p2) (fun t _ ht => ?_) (fun t ht => ?_)⟩
    · rw [ft_vt za hv (by omega) (by omega)]
      unfold ft_v
      rw [ft_pl (by omega), show ft_1 (200 + a) 1 t = 0 from if_neg (by omega), (us_both_zero _ ((X3 t).1 (by omega)).1).1]
    · rw [ft_wt za X2 ht (by omega)]
      exact sw 1 _ _ t (by decide) X3 ht rfl
end EA
