/-! the class foretells what ft says: APPLICATION, all -/
def ap_x (A : Nat → Int32) : Nat → Nat → Nat
  | 0, k => k
  | m + 1, k => ap_x A m (nn (A k))
section WF
variable {K M A B C SZ R : Nat → Int32} {nd : Nat}
theorem ap_xq : ∀ {m k q h : Nat}, ap_h K A (m + 1) k q h → ap_x A m k = q
  | 0, _, _, _, ⟨_, _, _, _, _, h, _⟩ => (h rfl).symm
  | m + 1, k, q, h, ⟨_, _, j, h3, h4, _, h5⟩ => by
    unfold ap_x
    rw [h4, nn_n (by omega)]
    exact ap_xq h5
theorem ap_xh : ∀ {m k q h : Nat}, ap_h K A m k q h → ap_x A m k = h
  | 0, _, _, _, ⟨h, _, _⟩ => h
  | m + 1, k, q, h, ⟨_, _, j, h3, h4, _, h5⟩ => by
    unfold ap_x
    rw [h4, nn_n (by omega)]
    exact ap_xh h5
/-- an APPLICATION's own row -/
theorem wf_9 {n f g k s a b : Nat} {G : List Nat} (w : wf_N K M A B C nd (n + 1) f g k s a b G) (h1 : K k = 9) : ∃ f1 f' i j c, (f1 ≤ f ∧ (K i ≠ 9 → f1 < f)) ∧ f' < f ∧ A k = nI i ∧ B k = nI j ∧ k = j + 1 ∧ wf_N K M A B C nd n f1 g i s a c G ∧ wf_N K M A B C nd n f' g j (i + 1) c b G := by
  rcases w with ⟨w, _⟩ | ⟨w, _⟩ | ⟨w, _⟩ | ⟨w, _⟩ | ⟨w, _⟩ | ⟨w, _⟩ | ⟨w, _⟩ | ⟨w, _⟩ | ⟨w, _⟩ | ⟨w, r⟩
  all_goals first | exact absurd (w.symm.trans h1) (by decide) | skip
  exact r
theorem wf_head1 {n f g k s a b m q h : Nat} {G : List Nat} (w : wf_N K M A B C nd (n + 1) f g k s a b G) (hk : k < 4000) (r : ap_h K A (m + 1) k q h) : ∃ f3 c3, f3 < f ∧ wf_N K M A B C nd n f3 g h s a c3 G ∧ c3 ≤ b ∧ h + (m + 1) ≤ k := by
  obtain ⟨h1, h2, j2, h3, h4, h5, h6⟩ := r
  obtain ⟨f1, f', i, j, c, q1, q2, q3, q4, w1, w2, w3⟩ := wf_9 w h1
  have o2 := wf_ord w2
  have o3 := wf_ord w3
  have e : i = j2 := (nI_eq (by omega) (by omega)).mp (q3.symm.trans h4)
  subst e
  obtain ⟨f2, c2, r1, r2, r3, r4⟩ := wf_head w2 (by omega) h6
  have lt : f2 < f := by
    cases m with
    | zero =>
      obtain ⟨e1, e2, _⟩ := h6
      have := q1.2 e2
      have := r1.1
      omega
    | succ m =>
      have := r1.2 (by omega)
      have := q1.1
      omega
  exact ⟨f2, c2, lt, r2, by omega, by omega⟩
theorem wf_inner : ∀ {m n f g k s a b : Nat} {G : List Nat} {q h : Nat}, wf_N K M A B C nd (n + 1) f g k s a b G → k < 4000 → ap_h K A (m + 1) k q h → ∃ f' j c b', f' < f ∧ A q = nI h ∧ B q = nI j ∧ q = j + 1 ∧ wf_N K M A B C nd n f' g j (h + 1) c b' G ∧ a ≤ c ∧ b' ≤ b ∧ q ≤ k
  | 0, n, f, g, k, s, a, b, G, q, h, w, hk, ⟨h1, h2, j2, h3, h4, h5, h6⟩ => by
    obtain ⟨f1, f', i, j, c, q1, q2, q3, q4, w1, w2, w3⟩ := wf_9 w h1
    have o2 := wf_ord w2
    have o3 := wf_ord w3
    have e : i = j2 := (nI_eq (by omega) (by omega)).mp (q3.symm.trans h4)
    subst e
    obtain ⟨e, _, _⟩ := h6
    subst e
    have e := h5 rfl
    subst e
    exact ⟨f', j, c, b, q2, q3, q4, w1, w3, o2.2, Nat.le_refl _, Nat.le_refl _⟩
  | m + 1, n, f, g, k, s, a, b, G, q, h, w, hk, ⟨h1, h2, j2, h3, h4, h5, h6⟩ => by
    obtain ⟨f1, f', i, j, c, q1, q2, q3, q4, w1, w2, w3⟩ := wf_9 w h1
    have o2 := wf_ord w2
    have o3 := wf_ord w3
    have e : i = j2 := (nI_eq (by omega) (by omega)).mp (q3.symm.trans h4)
    subst e
    obtain ⟨f2, j3, c3, b3, r1, r2, r3, r4, r5, r6, r7, r8⟩ := wf_inner (wf_up w2) (by omega) h6
    exact ⟨f2, j3, c3, b3, Nat.lt_of_lt_of_le r1 q1.1, r2, r3, r4, r5, r6, by omega, by omega⟩
theorem ft_gsq {n : Nat} {F : Nat → Int32 → Nat → Int32} (hF : ∀ f g k s a b G D, wf_N K M A B C nd n f g k s a b G → k < 4000 → (∀ t ∈ G, t < a) → b ≤ 200 → D ∈ us_dm → ft_g G (F k D)) {u : Nat → Int32} (hu : ∀ i, u i ∈ us_codes) : ∀ {m N f g k s a b : Nat} {G : List Nat} {q h : Nat}, m ≤ N → wf_N K M A B C nd (n + 1) f g k s a b G → k < 4000 → (∀ t ∈ G, t < a) → b ≤ 200 → ap_h K A N k q h → ft_g G (ft_s K M A B F u m k)
  | 0, _, _, _, _, _, _, _, _, _, _, _, _, _, _, _, _ => ft_gz _
  | m + 1, 0, _, _, _, _, _, _, _, _, _, hm, _, _, _, _, _ => absurd hm (by omega)
  | m + 1, N + 1, f, g, k, s, a, b, G, q, h, hm, w, hk, hG, hb, ⟨h1, h2, j, h3, h4, h5, h6⟩ => by
    obtain ⟨f1, f', i, j2, c, q1, q2, q3, q4, w1, w2, w3⟩ := wf_9 w h1
    have o2 := wf_ord w2
    have o3 := wf_ord w3
    have e : i = j := (nI_eq (by omega) (by omega)).mp (q3.symm.trans h4)
    subst e
    unfold ft_s
    rw [q3, q4, nn_n (by omega), nn_n (by omega)]
    exact ft_gp (ft_gsq hF hu (by omega) (wf_up w2) (by omega) hG (by omega) h6) (ft_ga F (fun t ht => Nat.lt_of_lt_of_le (hG t ht) o2.2) hb w3 (fun D hD => hF _ _ _ _ _ _ _ D w3 (by omega) (fun t ht => Nat.lt_of_lt_of_le (hG t ht) o2.2) hb hD) (hu m))
/-- the innermost ARGUMENT apart -/
theorem ft_spl {n : Nat} {F : Nat → Int32 → Nat → Int32} (hF : ∀ f g k s a b G D, wf_N K M A B C nd n f g k s a b G → k < 4000 → (∀ t ∈ G, t < a) → b ≤ 200 → D ∈ us_dm → ft_g G (F k D)) {x : Int32} (hx : x ∈ us_codes) : ∀ {m f g k s a b : Nat} {G : List Nat} {q h : Nat}, wf_N K M A B C nd (n + 1) f g k s a b G → k < 4000 → (∀ t ∈ G, t < a) → b ≤ 200 → ap_h K A (m + 1) k q h → ft_s K M A B F (fun i => if i = 0 then x else 20) (m + 1) k = ft_p (ft_a K M F (nn (B q)) x) (ft_s K M A B F (fun _ => 20) m k) ∧ ft_g G (ft_a K M F (nn (B q)) x)
  | 0, f, g, k, s, a, b, G, q, h, w, hk, hG, hb, ⟨h1, h2, j, h3, h4, h5, h6⟩ => by
    obtain ⟨f1, f', i, j2, c, q1, q2, q3, q4, w1, w2, w3⟩ := wf_9 w h1
    have o2 := wf_ord w2
    have o3 := wf_ord w3
    have e := h5 rfl
    subst e
    have g1 := ft_ga F (u := x) (fun t ht => Nat.lt_of_lt_of_le (hG t ht) o2.2) hb w3 (fun D hD => hF _ _ _ _ _ _ _ D w3 (by omega) (fun t ht => Nat.lt_of_lt_of_le (hG t ht) o2.2) hb hD) hx
    have e2 : nn (B q) = j2 := by rw [q4, nn_n (by omega)]
    unfold ft_s
    unfold ft_s
    rw [e2]
    refine ⟨?_, g1⟩
    rw [if_pos rfl, (ft_pz g1).1, (ft_pz g1).2]
  | m + 1, f, g, k, s, a, b, G, q, h, w, hk, hG, hb, ⟨h1, h2, j, h3, h4, h5, h6⟩ => by
    obtain ⟨f1, f', i, j2, c, q1, q2, q3, q4, w1, w2, w3⟩ := wf_9 w h1
    have o2 := wf_ord w2
    have o3 := wf_ord w3
    have e : i = j := (nI_eq (by omega) (by omega)).mp (q3.symm.trans h4)
    subst e
    obtain ⟨r1, r2⟩ := ft_spl hF hx (wf_up w2) (by omega) hG (by omega) h6
    refine ⟨?_, r2⟩
    have g1 := ft_ga F (u := 20) (fun t ht => Nat.lt_of_lt_of_le (hG t ht) o2.2) hb w3 (fun D hD => hF _ _ _ _ _ _ _ D w3 (by omega) (fun t ht => Nat.lt_of_lt_of_le (hG t ht) o2.2) hb hD) us_c20
    have g2 := ft_gsq hF (u := fun _ => 20) (fun _ => us_c20) (Nat.le_succ m) (wf_up w2) (by omega) hG (by omega) h6
    rw [show ft_s K M A B F (fun i => if i = 0 then x else 20) (m + 1 + 1) k = ft_p (ft_s K M A B F (fun i => if i = 0 then x else 20) (m + 1) (nn (A k))) (ft_a K M F (nn (B k)) 20) from rfl, show ft_s K M A B F (fun _ => 20) (m + 1) k = ft_p (ft_s K M A B F (fun _ => 20) m (nn (A k))) (ft_a K M F (nn (B k)) 20) from rfl, q3, q4, nn_n (by omega), nn_n (by omega), r1]
    exact ft_pa r2 g2 g1
end WF
section EA
variable {h0 : Nat → Nat → Int32} {L H : Nat} {hl : Nat → Nat → Int64} {nd : Nat} {N g a : Nat} {G : List Nat} {D : Int32} {Vs : List (Nat → Int32)}
theorem fe_args (hH : H ≤ 200) (hR : ∀ i, h0 36 i ∈ us_codes) (IH : ft_C h0 L H hl nd N) {u : Nat → Int32} (hu : ∀ i, u i ∈ us_codes) (hG : ∀ t ∈ G, L ≤ t ∧ t < a) (hL : L ≤ a) (h2 : Vs.length + 2 * g < 82) : ∀ {m Q f k s b : Nat} {q h : Nat} {ts : List (Int32 × Int32 × Int32)} {V S : Nat → Int32}, m ≤ Q → wf_N (h0 26) (h0 27) (h0 28) (h0 29) (h0 30) nd (N + 1) f g k s a b G → k < 4000 → b ≤ H → ap_h (h0 26) (h0 28) Q k q h → vs_ok V S → (∀ t, a ≤ t → t < b → V t = 0) → ts.length + (k - ap_x (h0 28) m k) + 5 * g + 1 ≤ 4000 → (∃ c, c + m ≤ 7 * (k - ap_x (h0 28) m k) ∧ fe h0 L H hl c (ap_ts (h0 28) (h0 29) u m k ts) ts V Vs S (ft_s (h0 26) (h0 27) (h0 28) (h0 29) (ft (h0 26) (h0 27) (h0 28) (h0 29) (h0 30) (h0 20) (h0 36) N) u m k)) ∧ ap_x (h0 28) m k ≤ k
  | 0, Q, f, k, s, b, q, h, ts, V, S, hm, w, hk, hb, r, hv, hz, h1 => ⟨⟨0, Nat.zero_le _, fe_z hH hv⟩, Nat.le_refl _⟩
  | m + 1, 0, _, _, _, _, _, _, _, _, _, hm, _, _, _, _, _, _, _ => absurd hm (by omega)
  | m + 1, Q + 1, f, k, s, b, q, h, ts, V, S, hm, w, hk, hb, ⟨p1, p2, j, p3, p4, p5, p6⟩, hv, hz, h1 => by
    obtain ⟨f1, f', i, j2, c, q1, q2, q3, q4, w1, w2, w3⟩ := wf_9 w p1
    have o2 := wf_ord w2
    have o3 := wf_ord w3
    have e : i = j := (nI_eq (by omega) (by omega)).mp (q3.symm.trans p4)
    subst e
    have x1 : ap_x (h0 28) (m + 1) k = ap_x (h0 28) m i := by
      rw [show ap_x (h0 28) (m + 1) k = ap_x (h0 28) m (nn (h0 28 k)) from rfl, q3, nn_n (by omega)]
    rw [x1] at h1 ⊢
    -- how far the inner ones reach
    have xle : ∀ {m Q f k s b q h : Nat}, m ≤ Q → wf_N (h0 26) (h0 27) (h0 28) (h0 29) (h0 30) nd (N + 1) f g k s a b G → k < 4000 → ap_h (h0 26) (h0 28) Q k q h → ap_x (h0 28) m k ≤ k := by
      intro m
      induction m with
      | zero => intros; exact Nat.le_refl _
      | succ m ih =>
        intro Q f k s b q h hm w hk r
        cases Q with
        | zero => exact absurd hm (by omega)
        | succ Q =>
          obtain ⟨p1, p2, j, p3, p4, p5, p6⟩ := r
          obtain ⟨f1, f', i, j2, c, q1, q2, q3, q4, w1, w2, w3⟩ := wf_9 w p1
          have o2 := wf_ord w2
          have o3 := wf_ord w3
          have e : i = j := (nI_eq (by omega) (by omega)).mp (q3.symm.trans p4)
          subst e
          rw [show ap_x (h0 28) (m + 1) k = ap_x (h0 28) m (nn (h0 28 k)) from rfl, q3, nn_n (by omega)]
          have := ih (by omega) (wf_up w2) (by omega) p6
          omega
    have y1 := xle (show m ≤ Q by omega) (wf_up w2) (by omega) p6
    refine ⟨?_, by omega⟩
    have hG2 : ∀ t ∈ G, L ≤ t ∧ t < c := fun t ht => ⟨(hG t ht).1, by have := (hG t ht).2; omega⟩
    have IHg := ft_good (SZ := h0 20) hR N (K := h0 26) (M := h0 27) (A := h0 28) (B := h0 29) (C := h0 30) (nd := nd)
    have X1 := ft_gsq IHg hu (show m ≤ Q by omega) (wf_up w2) (by omega) (fun t ht => (hG t ht).2) (by omega) p6
    have X2 := ft_ga (ft (h0 26) (h0 27) (h0 28) (h0 29) (h0 30) (h0 20) (h0 36) N) (fun t ht => (hG2 t ht).2) (by omega) w3 (fun D hD => IHg _ _ _ _ _ _ _ D w3 (by omega) (fun t ht => (hG2 t ht).2) (by omega) hD) (hu m)
    obtain ⟨c1, b1, a1⟩ := (fe_args hH hR IH hu hG hL h2 (ts := (1, nI j2, u m) :: ts) (show m ≤ Q by omega) (wf_up w2) (by omega) (by omega) p6 hv (fun t h3 h4 => hz t h3 (by omega)) (by rw [List.length_cons]; omega)).1
    have a2 := fe_argC (u := u m) (ts := ts) hH IH w3 (by omega) hG2 (by omega) hb (hu m) (vs_next hv X1) (fun t h3 h4 => ft_vz (hz t (by omega) h4) X1 (by omega) (fun e => by have := (hG t e).2; omega)) (by omega) h2
    have r := fe_seq hH hv X1 X2 a1 a2
    rw [show ap_ts (h0 28) (h0 29) u (m + 1) k ts = ap_ts (h0 28) (h0 29) u m (nn (h0 28 k)) ((1, h0 29 k, u m) :: ts) from rfl, show ft_s (h0 26) (h0 27) (h0 28) (h0 29) (ft (h0 26) (h0 27) (h0 28) (h0 29) (h0 30) (h0 20) (h0 36) N) u (m + 1) k = ft_p (ft_s (h0 26) (h0 27) (h0 28) (h0 29) (ft (h0 26) (h0 27) (h0 28) (h0 29) (h0 30) (h0 20) (h0 36) N) u m (nn (h0 28 k))) (ft_a (h0 26) (h0 27) (ft (h0 26) (h0 27) (h0 28) (h0 29) (h0 30) (h0 20) (h0 36) N) (nn (h0 29 k)) (u m)) from rfl, q3, q4, nn_n (by omega), nn_n (by omega)]
    exact ⟨_, by omega, r⟩
end EA
