/-! the class foretells what ft says: APPLICATION, all, a DEF -/
section EA
variable {h0 : Nat → Nat → Int32} {L H : Nat} {hl : Nat → Nat → Int64} {nd : Nat} {N f g k s a b : Nat} {G : List Nat} {D : Int32} {ts : List (Int32 × Int32 × Int32)} {V : Nat → Int32} {Vs : List (Nat → Int32)} {S : Nat → Int32}
theorem fa_cg {u : Int32} {V' : Nat → Int32} {t : Nat} (hM : h0 26 k = 1 → ∃ t, h0 27 k = nI t ∧ L ≤ t ∧ t < H) (hH : H ≤ 200) (e : ∀ t, L ≤ t → t < H → V t = V' t) (h1 : L ≤ t) (h2 : t < H) : fa_V (h0 26) (h0 27) k u V t = fa_V (h0 26) (h0 27) k u V' t := by
  unfold fa_V
  by_cases c : u ≠ 0 ∧ h0 26 k = 1
  · rw [if_pos c, if_pos c]
    obtain ⟨t0, e1, e2, e3⟩ := hM c.2
    rw [e1, nI_clamp (by omega)]
    unfold fi_u
    by_cases x : t = t0
    · rw [if_pos x, if_pos x, e t0 e2 e3]
    · rw [if_neg x, if_neg x]; exact e t h1 h2
  · rw [if_neg c, if_neg c]; exact e t h1 h2
/-- the rest of an ARGUMENT that is looked at already -/
theorem fe_rest {m : Nat} {u : Int32} (F : Nat → Int32 → Nat → Int32) (hH : H ≤ 200) (hv : vs_ok V S) (hM : h0 26 k = 1 → ∃ t, h0 27 k = nI t ∧ L ≤ t ∧ t < H) (hF : fe h0 L H hl m ((0, nI k, u &&& 7) :: ts) ts V Vs S (F k (u &&& 7))) : ∃ m', m' ≤ m ∧ fi_R h0 L H hl m' (fa_ts (h0 26) k u ts) (fa_V (h0 26) (h0 27) k u V :: Vs) S ts (ft_v V (ft_a (h0 26) (h0 27) F k u) :: Vs) (ft_w S (ft_a (h0 26) (h0 27) F k u)) := by
  unfold ft_a
  by_cases c : u = 0
  · rw [if_pos c, show fa_ts (h0 26) k u ts = ts from if_pos (Or.inl c), show fa_V (h0 26) (h0 27) k u V = V from if_neg (fun e => e.1 c)]
    obtain ⟨m', h1, h2⟩ := fe_z (h0 := h0) (hl := hl) (L := L) (ts := ts) (Vs := Vs) hH hv
    exact ⟨m', by omega, h2⟩
  rw [if_neg c]
  by_cases c2 : h0 26 k = 1
  · obtain ⟨t, h1, h2, h3⟩ := hM c2
    rw [if_pos c2, show fa_ts (h0 26) k u ts = ts from if_pos (Or.inr c2), show fa_V (h0 26) (h0 27) k u V = fi_u V t (us_both (V t) u) from (if_pos ⟨c, c2⟩).trans (by rw [h1, nI_clamp (by omega)]), h1, nn_n (by omega)]
    refine ⟨0, Nat.zero_le _, fi_Rc fi_refl (fun x _ hx => ?_) (fun x hx => ?_)⟩
    · unfold fi_u ft_v ft_1
      by_cases c : x = t
      · rw [if_pos c, if_pos c, c]
      · rw [if_neg c, if_neg c]; exact ((us_both_zero _ (hv x (by omega)).1).2).symm
    · unfold ft_w ft_1
      rw [if_neg (by omega)]
      exact ((us_sn_0 _ (hv x hx).2).1).symm
  · rw [if_neg c2, show fa_ts (h0 26) k u ts = (0, nI k, u &&& 7) :: ts from if_neg (fun e => e.elim c c2), show fa_V (h0 26) (h0 27) k u V = V from if_neg (fun e => c2 e.2)]
    exact hF
theorem fe_call {f' g' f5 j hd q jq c3 cq bq : Nat} {D' : Int32} (hH : H ≤ 200) (hR : ∀ i, h0 36 i ∈ us_codes) (IH : ft_C h0 L H hl nd N) (hG : ∀ t ∈ G, L ≤ t ∧ t < a) (hL : L ≤ a) (hb : b ≤ H) (dD : D' ∈ us_dm) (hv : vs_ok V S) (hz : ∀ t, a ≤ t → t < b → V t = 0) (x6 : wf_N (h0 26) (h0 27) (h0 28) (h0 29) (h0 30) nd N f' g' j s (a + 2) c3 ((a + 1) :: G)) (z5 : wf_N (h0 26) (h0 27) (h0 28) (h0 29) (h0 30) nd N f5 g jq (hd + 1) cq bq G) (hc3 : c3 ≤ b) (hq : q < 4000) (z4 : q = jq + 1) (x5 : hd = j + 1) (z2 : h0 28 q = nI hd) (z3 : h0 29 q = nI jq) (x3 : h0 27 hd = nI a) (z6 : a ≤ cq) (z7 : bq ≤ b) (g1 : g' < g) (h1 : ts.length + (q + 1 - s) + 5 * g + 1 ≤ 4000) (h2 : Vs.length + 2 * g < 82) :
    fe h0 L H hl (7 * (j + 1 - s) + 1 + 7 * (jq - hd)) ((0, nI j, D') :: (5, nI q, 0) :: ts) ts V Vs S (ft_p (ft_t (ft (h0 26) (h0 27) (h0 28) (h0 29) (h0 30) (h0 20) (h0 36) N j D') (a + 1)) (ft_a (h0 26) (h0 27) (ft (h0 26) (h0 27) (h0 28) (h0 29) (h0 30) (h0 20) (h0 36) N) jq (ft (h0 26) (h0 27) (h0 28) (h0 29) (h0 30) (h0 20) (h0 36) N j D' (a + 1)))) := by
  have o6 := wf_ord x6
  have o5 := wf_ord z5
  have hG6 : ∀ t ∈ (a + 1) :: G, L ≤ t ∧ t < a + 2 := fun t ht => (List.mem_cons.mp ht).elim (fun e => by omega) (fun e => by have := hG t e; omega)
  have hG5 : ∀ t ∈ G, L ≤ t ∧ t < cq := fun t ht => ⟨(hG t ht).1, by have := (hG t ht).2; omega⟩
  have IHg := ft_good (SZ := h0 20) hR N (K := h0 26) (M := h0 27) (A := h0 28) (B := h0 29) (C := h0 30) (nd := nd)
  have X6 := IHg _ _ _ _ _ _ _ D' x6 (by omega) (fun t ht => (hG6 t ht).2) (by omega) dD
  have XT := ft_gt (by omega) X6
  have xc := ((X6 (a + 1)).1 (by omega)).1
  obtain ⟨m1, c1, a1⟩ := IH _ _ _ _ _ _ _ D' ((5, nI q, 0) :: ts) V Vs S x6 (by omega) hG6 (by omega) (by omega) dD hv (fun t h3 h4 => hz t (by omega) (by omega)) (by rw [List.length_cons]; omega) (by omega)
  have za := hz (a + 1) (by omega) (by omega)
  have hM : h0 26 jq = 1 → ∃ t, h0 27 jq = nI t ∧ L ≤ t ∧ t < H := fun e => by
    obtain ⟨t, e1, e2⟩ := wf_thing z5 e
    have := hG t e2
    exact ⟨t, e1, by omega, by omega⟩
  have p := fi_turn (L := L) (hl := hl) (S := ft_w S (ft (h0 26) (h0 27) (h0 28) (h0 29) (h0 30) (h0 20) (h0 36) N j D')) hH (by omega) (fp_call (D := 0) (ts := ts) (V := ft_v V (ft (h0 26) (h0 27) (h0 28) (h0 29) (h0 30) (h0 20) (h0 36) N j D')) (Vs := Vs) hH hq (by omega) (by omega) (by omega) (by omega) z2 x3 z3 (by omega) hM)
  rw [ft_va za X6 (by omega)] at p
  have p' := fi_Rc p (V'' := fa_V (h0 26) (h0 27) jq (ft (h0 26) (h0 27) (h0 28) (h0 29) (h0 30) (h0 20) (h0 36) N j D' (a + 1)) (ft_v V (ft_t (ft (h0 26) (h0 27) (h0 28) (h0 29) (h0 30) (h0 20) (h0 36) N j D') (a + 1)))) (S'' := ft_w S (ft_t (ft (h0 26) (h0 27) (h0 28) (h0 29) (h0 30) (h0 20) (h0 36) N j D') (a + 1))) (fun t h3 h4 => fa_cg hM hH (fun t h3 h4 => ft_vt za hv (by omega) (by omega)) h3 h4) (fun t ht => by
    have e := ft_wt (S := S) za X6 ht (by omega)
    rw [ft_va za X6 (by omega)] at e
    exact e)
  have vT := vs_next hv XT
  obtain ⟨m2, c2, a2⟩ := fe_rest (u := ft (h0 26) (h0 27) (h0 28) (h0 29) (h0 30) (h0 20) (h0 36) N j D' (a + 1)) (ft (h0 26) (h0 27) (h0 28) (h0 29) (h0 30) (h0 20) (h0 36) N) hH vT hM (IH _ _ _ _ _ _ _ _ ts _ Vs _ z5 (by omega) hG5 (by omega) (by omega) (us_dm_7 _ xc) vT (fun t h3 h4 => ft_vz (hz t (by omega) (by omega)) XT (by omega) (fun e => by have := (hG t e).2; omega)) (by omega) h2)
  have XQ := ft_ga (ft (h0 26) (h0 27) (h0 28) (h0 29) (h0 30) (h0 20) (h0 36) N) (fun t ht => (hG5 t ht).2) (by omega) z5 (fun D hD => IHg _ _ _ _ _ _ _ D z5 (by omega) (fun t ht => (hG5 t ht).2) (by omega) hD) xc
  refine ⟨m1 + 1 + m2, by omega, fi_Rc (fi_trans (fi_trans a1 p') a2) (fun t _ ht => ?_) (fun t ht => ?_)⟩
  · unfold ft_v
    rw [ft_pl (by omega)]
    exact us_both_assoc _ (hv t (by omega)).1 _ ((XT t).1 (by omega)).1 _ ((XQ t).1 (by omega)).1
  · unfold ft_w
    rw [ft_ph]
    exact us_max_assoc _ _ _
theorem fe_app (hH : H ≤ 200) (hR : ∀ i, h0 36 i ∈ us_codes) (hS : ∀ e, e < nd → ∃ w, h0 20 e = nI w ∧ w ≤ 4) (hnd : nd ≤ 24) (IH : ft_C h0 L H hl nd N) (w : wf_N (h0 26) (h0 27) (h0 28) (h0 29) (h0 30) nd (N + 1) f g k s a b G) (hk : k < 4000) (hG : ∀ t ∈ G, L ≤ t ∧ t < a) (hL : L ≤ a) (hb : b ≤ H) (hD : D ∈ us_dm) (hv : vs_ok V S) (hz : ∀ t, a ≤ t → t < b → V t = 0) (h1 : ts.length + (k + 1 - s) + 5 * g + 1 ≤ 4000) (h2 : Vs.length + 2 * g < 82) (h : h0 26 k = 9) :
    fe h0 L H hl (7 * (k + 1 - s)) ((0, nI k, D) :: ts) ts V Vs S (ft_ap (h0 26) (h0 27) (h0 28) (h0 29) (h0 20) (h0 36) (ft (h0 26) (h0 27) (h0 28) (h0 29) (h0 30) (h0 20) (h0 36) N) (ap_n (h0 26) (h0 28) 4000 k) (ap_e (h0 26) (h0 28) 4000 k) k D) := by
  have o := wf_ord w
  obtain ⟨m, q, hd, r1, r2⟩ := wf_ap w hk
  have e := ap_ne r1 (n := 4000) (by omega)
  rw [e.1, e.2]
  cases m with
  | zero => exact absurd h (r1.1 ▸ r1.2.1)
  | succ m =>
  obtain ⟨f3, c3, p1, p2, p3, p4⟩ := wf_head1 w hk r1
  have op := wf_ord p2
  have IHg := ft_good (SZ := h0 20) hR N (K := h0 26) (M := h0 27) (A := h0 28) (B := h0 29) (C := h0 30) (nd := nd)
  have xh := ap_xh r1
  unfold ft_ap
  by_cases k2 : h0 26 hd = 2
  · rw [if_pos k2]
    have p2' := p2
    cases N with
    | zero => exact p2.elim
    | succ N2 =>
    rcases p2' with ⟨x, _⟩ | ⟨x, _⟩ | ⟨x, _, _, e0, x1, x2⟩ | ⟨x, _⟩ | ⟨x, _⟩ | ⟨x, _⟩ | ⟨x, _⟩ | ⟨x, _⟩ | ⟨x, _⟩ | ⟨x, _⟩
    all_goals first | exact absurd (x.symm.trans k2) (by decide) | skip
    obtain ⟨wd, y1, y2⟩ := hS e0 x2
    rw [x1, nn_n (by omega), y1, nn_n (by omega)]
    have p := fi_turn (L := L) (hl := hl) (Vs := V :: Vs) (S := S) hH (by omega) (fi_PV (fv_app (D := D) (ts := ts) hk h (fun d hi s => ea_visitAppD d m k q hd e0 wd D hl ts hi r1 (by omega) k2 x1 (by omega) y1 y2 (by omega) s)))
    unfold ap_def at p
    by_cases c0 : m + 1 < wd ∧ D = 0
    · rw [if_pos c0] at p ⊢
      exact fe_le (by omega) (fe_pre p (fe_z hH hv))
    · rw [if_neg c0] at p ⊢
      have hu : ∀ i, ap_u (h0 36) e0 wd (m + 1) (if m + 1 = wd ∧ D = 0 then 0 else 1) i ∈ us_codes := by
        intro i
        unfold ap_u
        split
        · exact hR _
        · exact us_c20
      obtain ⟨c1, b1, a1⟩ := (fe_args (ts := ts) hH hR IH hu hG hL h2 (Nat.le_refl _) w hk hb r1 hv hz (by rw [xh]; omega)).1
      rw [xh] at b1
      exact fe_le (by omega) (fe_pre p a1)
  · rw [if_neg k2]
    by_cases k4 : h0 26 hd = 4
    · rw [if_pos k4]
      have p2' := p2
      cases N with
      | zero => exact p2.elim
      | succ N2 =>
      rcases p2' with ⟨x, _⟩ | ⟨x, _⟩ | ⟨x, _⟩ | ⟨x, _⟩ | ⟨x, f', g', j, x1, x2, x3, x4, x5, x6⟩ | ⟨x, _⟩ | ⟨x, _⟩ | ⟨x, _⟩ | ⟨x, _⟩ | ⟨x, _⟩
      all_goals first | exact absurd (x.symm.trans k4) (by decide) | skip
      have o6 := wf_ord x6
      have x6' := wf_up x6
      obtain ⟨f5, jq, cq, bq, z1, z2, z3, z4, z5, z6, z7, z8⟩ := wf_inner w hk r1
      have o5 := wf_ord z5
      have xq := ap_xq r1
      rw [x3, x4, nn_n (by omega), nn_n (by omega)]
      have hG6 : ∀ t ∈ (a + 1) :: G, L ≤ t ∧ t < a + 2 := fun t ht => (List.mem_cons.mp ht).elim (fun e => by omega) (fun e => by have := hG t e; omega)
      have hG5 : ∀ t ∈ G, L ≤ t ∧ t < cq := fun t ht => ⟨(hG t ht).1, by have := (hG t ht).2; omega⟩
      have eD : (if m + 1 = 1 then D else us_hd (nI (m + 1 - 1)) D) = (if m = 0 then D else us_hd (nI m) D) := by
        by_cases c : m = 0
        · rw [if_pos c, if_pos (by omega)]
        · rw [if_neg c, if_neg (by omega), Nat.add_sub_cancel]
      rw [eD]
      have dD : (if m = 0 then D else us_hd (nI m) D) ∈ us_dm := by
        split
        · exact hD
        · exact us_dm_h D (by omega)
      have p := fi_turn (L := L) (hl := hl) (Vs := V :: Vs) (S := S) hH (by omega) (fi_PV (fv_app (D := D) (ts := ts) hk h (fun d hi s => ea_visitAppL d m k q hd a j D hl ts hi hH r1 (by omega) k4 x3 (by omega) x4 (by omega) s)))
      generalize (if m = 0 then D else us_hd (nI m) D) = D' at dD p ⊢
      have xc := ((ft_good (SZ := h0 20) hR (N2 + 1) (K := h0 26) (M := h0 27) (A := h0 28) (B := h0 29) (C := h0 30) (nd := nd) _ _ _ _ _ _ _ D' x6' (by omega) (fun t ht => (hG6 t ht).2) (by omega) dD (a + 1)).1 (by omega)).1
      have X6 := IHg _ _ _ _ _ _ _ D' x6' (by omega) (fun t ht => (hG6 t ht).2) (by omega) dD
      have XT := ft_gt (by omega) X6
      have hu : ∀ i, (fun _ => 20 : Nat → Int32) i ∈ us_codes := fun _ => us_c20
      have XY := ft_gsq IHg hu (Nat.le_succ m) w hk (fun t ht => (hG t ht).2) (by omega) r1
      obtain ⟨sp, XQ⟩ := ft_spl IHg xc w hk (fun t ht => (hG t ht).2) (by omega) r1
      rw [z3, nn_n (by omega)] at sp XQ
      rw [sp]
      have XP : ft_g G (ft_1 (200 + a) 1) := ft_gs1 (by decide)
      have P1 : fe h0 L H hl 1 ((0, nI k, D) :: ts) (ap_ts (h0 28) (h0 29) (fun _ => 20) m k ((0, nI j, D') :: (5, nI q, 0) :: ts)) V Vs S (ft_1 (200 + a) 1) := by
        refine ⟨1, Nat.le_refl _, fi_Rc p (fun t _ ht => ?_) (fun t ht => ?_)⟩
        · unfold ft_v
          rw [show ft_1 (200 + a) 1 t = 0 from if_neg (by omega), (us_both_zero _ (hv t (by omega)).1).2]
        · unfold ft_w fi_u ft_1
          by_cases x : t = a
          · rw [if_pos x, if_pos (by omega), x]
          · rw [if_neg x, if_neg (by omega), (us_sn_0 _ (hv t ht).2).1]
      have vP := vs_next hv XP
      have zP : ∀ t, a ≤ t → t < b → ft_v V (ft_1 (200 + a) 1) t = 0 := fun t h3 h4 => ft_vz (hz t h3 h4) XP (by omega) (fun e => by have := (hG t e).2; omega)
      obtain ⟨c1, b1, a1⟩ := (fe_args (ts := (0, nI j, D') :: (5, nI q, 0) :: ts) hH hR IH hu hG hL h2 (Nat.le_succ m) w hk hb r1 vP zP (by rw [xq]; simp only [List.length_cons]; omega)).1
      rw [xq] at b1
      have vY := vs_next vP XY
      have zY : ∀ t, a ≤ t → t < b → ft_v (ft_v V (ft_1 (200 + a) 1)) (ft_s (h0 26) (h0 27) (h0 28) (h0 29) (ft (h0 26) (h0 27) (h0 28) (h0 29) (h0 30) (h0 20) (h0 36) (N2 + 1)) (fun _ => 20) m k) t = 0 := fun t h3 h4 => ft_vz (zP t h3 h4) XY (by omega) (fun e => by have := (hG t e).2; omega)
      have a3 := fe_call (ts := ts) (b := b) hH hR IH hG hL hb dD vY zY x6' z5 p3 (by omega) z4 x5 z2 z3 x3 z6 z7 x2 (by omega) h2
      have XTQ := ft_gp XT XQ
      have r := fe_seq hH hv XP (ft_gp XY XTQ) P1 (fe_seq hH vP XY XTQ a1 a3)
      rw [ft_pc XY XTQ, ft_pa XT XQ XY, ← ft_pa XP XT (ft_gp XQ XY)] at r
      exact fe_le (by omega) r
    · rw [if_neg k4]
      have hu : ∀ i, (fun _ => 20 : Nat → Int32) i ∈ us_codes := fun _ => us_c20
      have p := fi_turn (L := L) (hl := hl) (Vs := V :: Vs) (S := S) hH (by omega) (fi_PV (fv_app (D := D) (ts := ts) hk h (fun d hi s => ea_visitAppO d m k q hd D hl ts hi r1 (by omega) k2 k4 (by omega) s)))
      have dD := us_dm_h (m := m + 1) D (by omega)
      have X1 := ft_gsq IHg hu (Nat.le_refl _) w hk (fun t ht => (hG t ht).2) (by omega) r1
      have X2 := IHg _ _ _ _ _ _ _ _ p2 (by omega) (fun t ht => (hG t ht).2) (by omega) dD
      obtain ⟨c1, b1, a1⟩ := (fe_args (ts := (0, nI hd, us_hd (nI (m + 1)) D) :: ts) hH hR IH hu hG hL h2 (Nat.le_refl _) w hk hb r1 hv hz (by rw [xh, List.length_cons]; omega)).1
      rw [xh] at b1
      have a2 := IH _ _ _ _ _ _ _ _ ts _ Vs _ p2 (by omega) hG hL (by omega) dD (vs_next hv X1) (fun t h3 h4 => ft_vz (hz t h3 (by omega)) X1 (by omega) (fun e => by have := (hG t e).2; omega)) (by omega) h2
      rw [ft_pc X2 X1]
      exact fe_le (by omega) (fe_pre p (fe_seq hH hv X1 X2 a1 a2))
theorem ft_class (hH : H ≤ 200) (hLH : L ≤ H) (hR : ∀ i, h0 36 i ∈ us_codes) (hS : ∀ e, e < nd → ∃ w, h0 20 e = nI w ∧ w ≤ 4) (hnd : nd ≤ 24) : ∀ N, ft_C h0 L H hl nd N
  | 0, _, _, _, _, _, _, _, _, _, _, _, _, w, _, _, _, _, _, _, _, _, _ => w.elim
  | N + 1, f, g, k, s, a, b, G, D, ts, V, Vs, S, w, hk, hG, hL, hb, hD, hv, hz, h1, h2 => by
    have IH := ft_class hH hLH hR hS hnd N
    have o := wf_ord w
    have w0 := w
    unfold ft
    unfold ft_F
    rcases w with ⟨h, _⟩ | ⟨h, _, _, t, e1, e2⟩ | ⟨h, _⟩ | ⟨h, f', g', i, j, c, q1, q2, q3, q4, w1, w2, w3⟩ | ⟨h, f', g', j, q1, q2, q3, q4, w1, w2⟩ | ⟨h, f', g', i, j, c, q1, q2, q3, q4, q5, w1, w2, w3⟩ | ⟨h, f', g', i, j, l, c, e, q1, q2, q3, q4, q5, w1, w2, w3, w4⟩ | ⟨h, f', g', i, j, c, q1, q2, q3, q4, q5, w1, w2, w3⟩ | ⟨h, _, f1, f', i, j, c, q1, q2, q3, q4, w1, w2, w3⟩ | ⟨h, f1, f', i, j, c, q1, q2, q3, q4, w1, w2, w3⟩
    · rw [h, if_neg (by decide), if_neg (by decide), if_neg (by decide), if_neg (by decide), if_neg (by decide), if_neg (by decide), if_neg (by decide), if_neg (by decide)]
      exact fe_le (by omega) (fe_none hH hk (by omega) hv (Or.inl h))
    · rw [h, if_pos rfl, e1]
      have := hG t e2
      rw [nn_n (by omega)]
      exact fe_le (by omega) (fe_thing hH hk (by omega) (by omega) hv h e1 (by omega))
    · rw [h, if_neg (by decide), if_neg (by decide), if_neg (by decide), if_neg (by decide), if_neg (by decide), if_neg (by decide), if_neg (by decide), if_neg (by decide)]
      exact fe_le (by omega) (fe_none hH hk (by omega) hv (Or.inr h))
    · have o2 := wf_ord w2
      have o3 := wf_ord w3
      rw [h, if_neg (by decide), if_pos rfl, q3, q4, nn_n (by omega), nn_n (by omega)]
      exact fe_pair hH hR IH hk hG hL hb hv hz h1 h2 h q1 q2 q3 q4 w1 w2 w3
    · have o2 := wf_ord w2
      rw [h, if_neg (by decide), if_neg (by decide), if_pos rfl, q3, q4, nn_n (by omega), nn_n (by omega)]
      exact fe_lam hH hLH hR IH hk hG hL hb hD hv hz h1 h2 h q1 q2 q3 q4 w1 w2
    · have o2 := wf_ord w2
      have o3 := wf_ord w3
      rw [h, if_neg (by decide), if_neg (by decide), if_neg (by decide), if_pos rfl, q3, q4, q5, nn_n (by omega), nn_n (by omega), nn_n (by omega)]
      exact fe_let hH hR IH hk hG hL hb hD hv hz h1 h2 h q1 q2 q3 q4 q5 w1 w2 w3
    · have o2 := wf_ord w2
      have o3 := wf_ord w3
      have o4 := wf_ord w4
      rw [h, if_neg (by decide), if_neg (by decide), if_neg (by decide), if_neg (by decide), if_pos rfl, q3, q4, q5, nn_n (by omega), nn_n (by omega), nn_n (by omega)]
      exact fe_if hH hLH hR IH hk hG hL hb hD hv hz h1 h2 h q1 q2 q3 q4 q5 w1 w2 w3 w4
    · have o2 := wf_ord w2
      have o3 := wf_ord w3
      rw [h, if_neg (by decide), if_neg (by decide), if_neg (by decide), if_neg (by decide), if_neg (by decide), if_pos rfl, q3, q4, q5, nn_n (by omega), nn_n (by omega), nn_n (by omega)]
      exact fe_split hH hR IH hk hG hL hb hD hv hz h1 h2 h q1 q2 q3 q4 q5 w1 w2 w3
    · have o2 := wf_ord w2
      have o3 := wf_ord w3
      rw [h, if_neg (by decide), if_neg (by decide), if_neg (by decide), if_neg (by decide), if_neg (by decide), if_neg (by decide), if_pos rfl, q3, q4, nn_n (by omega), nn_n (by omega)]
      exact fe_op hH hR IH hk hG hL hb hv hz h1 h2 h q1 q2 q3 q4 w1 w2 w3
    · rw [h, if_neg (by decide), if_neg (by decide), if_neg (by decide), if_neg (by decide), if_neg (by decide), if_neg (by decide), if_neg (by decide), if_pos rfl]
      exact fe_app hH hR hS hnd IH w0 hk hG hL hb hD hv hz h1 h2 h
/-- foretell of a DEF whose body is well formed -/
theorem ea_foretell (d e k L H N f g s a : Nat) (G : List Nat) (D : Int32) (hi : Nat → Nat → Int32) (he : e < nd) (hnd : nd ≤ 24) (hH : H ≤ 200) (hLa : L ≤ a) (haH : a ≤ H) (hR : ∀ i, hi 36 i ∈ us_codes) (hS : ∀ e, e < nd → ∃ w, hi 20 e = nI w ∧ w ≤ 4) (hd : hi 17 0 = nI nd) (hT : hi 21 e = nI L) (hE : (e + 1 < nd → hi 21 (e + 1) = nI H) ∧ (e + 1 = nd → hi 17 1 = nI H)) (hB : hi 22 e = nI k) (w : wf_N (hi 26) (hi 27) (hi 28) (hi 29) (hi 30) nd N f g k s a H G) (hk : k < 3700) (hg : g ≤ 40) (hG : ∀ t ∈ G, L ≤ t ∧ t < a) (hD : D ∈ us_dm) (hse : ∀ t, t < 200 → hi 41 t ∈ ([0, 1, 2] : List Int32)) :
    ∃ hi' : Nat → Nat → Int32, am_call tb_P (d + 6) 108 [.ref 38, .int (nI e), .int D] (pr_S, hi, hl) = some (none, (pr_S, hi', hl)) ∧ (∀ c, c < 38 ∨ 44 < c → hi' c = hi c) ∧ hi' 39 1 = nI 0 ∧ (∀ t, L ≤ t → t < H → hi' 40 t = ft (hi 26) (hi 27) (hi 28) (hi 29) (hi 30) (hi 20) (hi 36) N k D t) ∧ (∀ t, t < 200 → hi' 41 t = us_max (hi 41 t) (ft (hi 26) (hi 27) (hi 28) (hi 29) (hi 30) (hi 20) (hi 36) N k D (200 + t))) := by
  have o := wf_ord w
  obtain ⟨h1, r1, r2, r3, r4, r5, r6⟩ := ea_startL (d + 2) L H hH (by omega) hi hl
  have hend : am_call tb_P (d + 5) 208 [.ref 17, .int (nI e)] (pr_S, hi, hl) = some (some (.int (nI H)), (pr_S, hi, hl)) := by
    by_cases c : e + 1 < nd
    · rw [en_208_17, ht_208_17_0, ch_208_17_0, hd, nI_1, if_neg (nI_ge c (by omega)), at_21, ev_rs, ch_208_17_2, sk_208_17_1_27, ht_208_17_2, ch_208_17_3, q_at_nI (show e + 1 < 24 by omega) (by decide), hE.1 c]
    · rw [en_208_17, ht_208_17_0, ch_208_17_0, hd, nI_1, if_pos (nI_le (by omega) (by omega)), ht_208_17_1, ch_208_17_1, ht_208_17_2, ch_208_17_3, hE.2 (by omega)]
  have s0 : fi_S hi (am_si h1 38 7 0) L H [] [fun _ => 0] (hi 41) := by
    refine ⟨fun c hc => funext fun x => ?_, am_si_at _ _ _ _, trivial, ?_, ?_, ?_, ⟨fun t h3 h4 => ?_, trivial⟩, fun t ht => ?_⟩
    · rw [am_si_ne (by omega)]; exact r5 c x (by omega) (by omega)
    · rw [am_si_ne (by decide), r2]; rfl
    · rw [am_si_ne (by decide)]; exact r3
    · rw [am_si_ne (by decide)]; exact r4
    · rw [am_si_ne (by decide), show 200 * ([] : List (Nat → Int32)).length + t = t by rw [List.length_nil]; omega]; exact r6 t h3 h4
    · rw [am_si_ne (by decide)]; exact r5 _ _ (by decide) (by omega)
  have s1 := fi_push s0 0 (nI k) D
  obtain ⟨m, c1, c2⟩ := ft_class (hl := hl) (L := L) hH (by omega) hR hS hnd N f g k s a H G D [] (fun _ => 0) [] (hi 41) w (by omega) hG hLa (Nat.le_refl _) hD (fun t ht => ⟨us_c0, hse t ht⟩) (fun _ _ _ => rfl) (by rw [List.length_nil]; omega) (by rw [List.length_nil]; omega)
  obtain ⟨h2, t1, t2⟩ := c2 d (999999 - m) 0 (nI e) D _ (by omega) s1
  rw [Nat.sub_add_cancel (by omega), Nat.zero_add] at t1
  refine ⟨h2, ?_, t2.1, ?_, fun t h3 h4 => ?_, fun t ht => t2.2.2.2.2.2.2.2 t ht⟩
  · rw [en_108, ht_108_0, ch_108_0, at_21, ev_rs, ch_108_1, q_at_nI (show e < 24 by omega) (by decide), hT, hend, ev_rs, ch_108_2, r1, ev_rn, ch_108_3, at_22, ev_rs, ch_108_4, q_at_nI (show e < 24 by omega) (by decide), s0.1 22 (by decide), hB, ea_pushF _ 0 _ _ _ _ _ s0.2.1 (by decide), ev_rn, ch_108_5]
    refine Eq.trans t1 ?_
    unfold fi_lp
    have e1 := t2.2.1
    rw [List.length_nil] at e1
    rw [ht_108_1, ch_108_6, if_neg (li_ge (by omega) (by decide)), e1, if_pos (by decide), ht_108_2, ch_108_7]
  · have := fi_top t2
    rwa [List.length_nil] at this
  · have e1 := t2.2.2.2.2.2.2.1.1 t h3 h4
    rw [List.length_nil, show 200 * 0 + t = t by omega] at e1
    rw [e1]
    exact ft_v0 (ft_good hR N _ _ _ _ _ _ _ _ w (by omega) (fun t ht => (hG t ht).2) (by omega) hD) (by omega)
end EA
