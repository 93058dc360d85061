/-! codes all through, and nothing but what may be named -/
def ft_g (G : List Nat) (X : Nat → Int32) : Prop := ∀ t, (t < 200 → X t ∈ us_codes ∧ (t ∉ G → X t = 0)) ∧ (200 ≤ t → X t ∈ [0, 1, 2])
def us_dm : List Int32 := [0, 1, 2, 3, 4]
theorem us_sn_max : ∀ a ∈ ([0, 1, 2] : List Int32), ∀ b ∈ ([0, 1, 2] : List Int32), us_max a b ∈ ([0, 1, 2] : List Int32) := by decide +kernel
theorem us_sn_c : ∀ a ∈ us_codes, a >>> (3 &&& 31) ∈ ([0, 1, 2] : List Int32) := by decide +kernel
theorem us_dm_7 : ∀ a ∈ us_codes, a &&& 7 ∈ us_dm := by decide +kernel
theorem us_dm_8 : ∀ a ∈ us_dm, 8 + a ∈ us_codes := by decide +kernel
theorem us_dm_1 : ∀ a ∈ us_dm, a ≠ 0 → a - 1 ∈ us_dm := by decide +kernel
theorem us_c0 : (0 : Int32) ∈ us_codes := by decide
theorem us_c20 : (20 : Int32) ∈ us_codes := by decide
theorem us_b00 : us_both 0 0 = 0 := by decide
theorem us_e00 : us_either 0 0 = 0 := by decide
theorem us_dm_h {m : Nat} (D : Int32) (hm : m < 2 ^ 31) : us_hd (nI m) D ∈ us_dm := by
  unfold us_hd
  by_cases c : D = 0 ∧ ¬ 3 < nI m
  · rw [if_pos c]
    have : m ≤ 3 := by
      by_cases q : m ≤ 3
      · exact q
      · exact absurd (show (3 : Int32) < nI m from nI_lt (a := 3) (by omega) hm) c.2
    have h4 : ∀ m, m ≤ 3 → nI m ∈ us_dm := by decide +kernel
    exact h4 m this
  · rw [if_neg c]; decide
theorem us_s0 : (0 : Int32) ∈ ([0, 1, 2] : List Int32) := by decide
theorem ft_gz (G : List Nat) : ft_g G ft_z := fun _ => ⟨fun _ => ⟨us_c0, fun _ => rfl⟩, fun _ => us_s0⟩
theorem ft_gp {G : List Nat} {X Y : Nat → Int32} (hX : ft_g G X) (hY : ft_g G Y) : ft_g G (ft_p X Y) := by
  intro t
  refine ⟨fun h => ?_, fun h => ?_⟩
  · unfold ft_p
    rw [if_pos h]
    refine ⟨us_both_in _ ((hX t).1 h).1 _ ((hY t).1 h).1, fun n => ?_⟩
    rw [((hX t).1 h).2 n, ((hY t).1 h).2 n]; exact us_b00
  · unfold ft_p
    rw [if_neg (by omega)]
    exact us_sn_max _ ((hX t).2 h) _ ((hY t).2 h)
theorem ft_ge {G : List Nat} {X Y : Nat → Int32} (hX : ft_g G X) (hY : ft_g G Y) : ft_g G (ft_e X Y) := by
  intro t
  refine ⟨fun h => ?_, fun h => ?_⟩
  · unfold ft_e
    rw [if_pos h]
    refine ⟨us_either_in _ ((hX t).1 h).1 _ ((hY t).1 h).1, fun n => ?_⟩
    rw [((hX t).1 h).2 n, ((hY t).1 h).2 n]; exact us_e00
  · unfold ft_e
    rw [if_neg (by omega)]
    exact us_sn_max _ ((hX t).2 h) _ ((hY t).2 h)
theorem ft_gm {G : List Nat} {X : Nat → Int32} (hX : ft_g G X) : ft_g G (ft_m X) := by
  intro t
  refine ⟨fun h => ?_, fun h => ?_⟩
  · unfold ft_m
    rw [if_pos h]
    refine ⟨us_many_in _ ((hX t).1 h).1, fun n => ?_⟩
    rw [((hX t).1 h).2 n]; rfl
  · unfold ft_m
    rw [if_neg (by omega)]
    exact (hX t).2 h
theorem ft_gt {G : List Nat} {X : Nat → Int32} {a : Nat} (ha : a < 200) (hX : ft_g (a :: G) X) : ft_g G (ft_t X a) := by
  intro t
  unfold ft_t
  refine ⟨fun h => ?_, fun h => ?_⟩
  · by_cases c : t = a
    · rw [if_pos c]; exact ⟨us_c0, fun _ => rfl⟩
    · rw [if_neg c, if_neg (by omega)]
      exact ⟨((hX t).1 h).1, fun n => ((hX t).1 h).2 (fun e => (List.mem_cons.mp e).elim c n)⟩
  · rw [if_neg (by omega)]
    by_cases c : t = 200 + a
    · rw [if_pos c]; exact us_sn_max _ ((hX t).2 h) _ (us_sn_c _ ((hX a).1 ha).1)
    · rw [if_neg c]; exact (hX t).2 h
theorem ft_g1 {G : List Nat} {a : Nat} {u : Int32} (ha : a ∈ G) (h2 : a < 200) (hu : u ∈ us_codes) : ft_g G (ft_1 a u) := by
  intro t
  unfold ft_1
  by_cases c : t = a
  · rw [if_pos c]; exact ⟨fun _ => ⟨hu, fun n => absurd (c ▸ ha) n⟩, fun h => absurd h (by omega)⟩
  · rw [if_neg c]; exact ⟨fun _ => ⟨us_c0, fun _ => rfl⟩, fun _ => by decide⟩
theorem ft_gs1 {G : List Nat} {a : Nat} {u : Int32} (hu : u ∈ ([0, 1, 2] : List Int32)) : ft_g G (ft_1 (200 + a) u) := by
  intro t
  unfold ft_1
  by_cases c : t = 200 + a
  · rw [if_pos c]; exact ⟨fun h => absurd h (by omega), fun _ => hu⟩
  · rw [if_neg c]; exact ⟨fun _ => ⟨us_c0, fun _ => rfl⟩, fun _ => by decide⟩
theorem ft_gi {G G' : List Nat} {X : Nat → Int32} (h : ∀ t, t ∈ G → t ∈ G') (hX : ft_g G X) : ft_g G' X := fun t => ⟨fun h1 => ⟨((hX t).1 h1).1, fun n => ((hX t).1 h1).2 (fun e => n (h t e))⟩, (hX t).2⟩
section WF
variable {K M A B C SZ R : Nat → Int32} {nd : Nat}
/-- an E that is handed on, by its kind -/
theorem ft_ga {n f g k s a b : Nat} {G : List Nat} {u : Int32} (F : Nat → Int32 → Nat → Int32) (hG : ∀ t ∈ G, t < a) (hb : b ≤ 200) (h : wf_N K M A B C nd n f g k s a b G) (hF : ∀ D ∈ us_dm, ft_g G (F k D)) (hu : u ∈ us_codes) : ft_g G (ft_a K M F k u) := by
  unfold ft_a
  by_cases c : u = 0
  · rw [if_pos c]; exact ft_gz G
  rw [if_neg c]
  by_cases c2 : K k = 1
  · rw [if_pos c2]
    cases n with
    | zero => exact h.elim
    | succ n =>
      have o := wf_ord h
      rcases h with ⟨h, _⟩ | ⟨_, _, _, t, e1, e2⟩ | ⟨h, _⟩ | ⟨h, _⟩ | ⟨h, _⟩ | ⟨h, _⟩ | ⟨h, _⟩ | ⟨h, _⟩ | ⟨h, _⟩ | ⟨h, _⟩
      all_goals first | exact absurd (h.symm.trans c2) (by decide) | skip
      have := hG t e2
      rw [e1, nn_n (by omega)]
      exact ft_g1 e2 (by omega) hu
  · rw [if_neg c2]; exact hF _ (us_dm_7 _ hu)
theorem ft_gsp {n : Nat} {F : Nat → Int32 → Nat → Int32} (hF : ∀ f g k s a b G D, wf_N K M A B C nd n f g k s a b G → k < 4000 → (∀ t ∈ G, t < a) → b ≤ 200 → D ∈ us_dm → ft_g G (F k D)) {u : Nat → Int32} (hu : ∀ i, u i ∈ us_codes) : ∀ {m n2 f g k s a b : Nat} {G : List Nat} {q h : Nat}, n2 ≤ n + 1 → wf_N K M A B C nd n2 f g k s a b G → k < 4000 → (∀ t ∈ G, t < a) → b ≤ 200 → ap_h K A m k q h → ft_g G (ft_s K M A B F u m k)
  | 0, _, _, _, _, _, _, _, _, _, _, _, _, _, _, _, _ => ft_gz _
  | m + 1, n2, f, g, k, s, a, b, G, q, h, hn, w, hk, hG, hb, ⟨h1, h2, j, h3, h4, h5, h6⟩ => by
    cases n2 with
    | zero => exact w.elim
    | succ n2 =>
      rcases w with ⟨w, _⟩ | ⟨w, _⟩ | ⟨w, _⟩ | ⟨w, _⟩ | ⟨w, _⟩ | ⟨w, _⟩ | ⟨w, _⟩ | ⟨w, _⟩ | ⟨w, _⟩ | ⟨w, f1, f', i, j2, c, q1, q2, q3, q4, w1, w2, w3⟩
      all_goals first | exact absurd (w.symm.trans h1) (by decide) | skip
      have o2 := wf_ord w2
      have o3 := wf_ord w3
      have e : i = j := (nI_eq (by omega) (by omega)).mp (q3.symm.trans h4)
      subst e
      have up : ∀ {x y : Nat} {f g k s a b : Nat} {G : List Nat}, x ≤ y → wf_N K M A B C nd x f g k s a b G → wf_N K M A B C nd y f g k s a b G := by
        intro x y f g k s a b G hxy hw
        induction hxy with
        | refl => exact hw
        | step _ ih => exact wf_up ih
      unfold ft_s
      rw [q3, q4, nn_n (by omega), nn_n (by omega)]
      refine ft_gp (ft_gsp hF hu (by omega) w2 (by omega) hG (by omega) h6) (ft_ga F (fun t ht => Nat.lt_of_lt_of_le (hG t ht) o2.2) hb w3 (fun D hD => hF _ _ _ _ _ _ _ D (up (by omega) w3) (by omega) (fun t ht => Nat.lt_of_lt_of_le (hG t ht) o2.2) hb hD) (hu m))
theorem wf_le {x y : Nat} {f g k s a b : Nat} {G : List Nat} (hxy : x ≤ y) (hw : wf_N K M A B C nd x f g k s a b G) : wf_N K M A B C nd y f g k s a b G := by
  induction hxy with
  | refl => exact hw
  | step _ ih => exact wf_up ih
/-- the head of an APPLICATION -/
theorem wf_head : ∀ {m n f g k s a b : Nat} {G : List Nat} {q h : Nat}, wf_N K M A B C nd n f g k s a b G → k < 4000 → ap_h K A m k q h → ∃ f2 c, (f2 ≤ f ∧ (0 < m → f2 < f)) ∧ wf_N K M A B C nd n f2 g h s a c G ∧ c ≤ b ∧ h + m ≤ k
  | 0, n, f, g, k, s, a, b, G, q, h, w, _, ⟨e, _, _⟩ => by subst e; exact ⟨f, b, ⟨Nat.le_refl _, fun x => absurd x (Nat.lt_irrefl 0)⟩, w, Nat.le_refl _, Nat.le_refl _⟩
  | m + 1, n, f, g, k, s, a, b, G, q, h, w, hk, ⟨h1, h2, j, h3, h4, h5, h6⟩ => by
    cases n with
    | zero => exact w.elim
    | succ n =>
      rcases w with ⟨w, _⟩ | ⟨w, _⟩ | ⟨w, _⟩ | ⟨w, _⟩ | ⟨w, _⟩ | ⟨w, _⟩ | ⟨w, _⟩ | ⟨w, _⟩ | ⟨w, _⟩ | ⟨w, f1, f', i, j2, c, q1, q2, q3, q4, w1, w2, w3⟩
      all_goals first | exact absurd (w.symm.trans h1) (by decide) | skip
      have o2 := wf_ord w2
      have o3 := wf_ord w3
      have e : i = j := (nI_eq (by omega) (by omega)).mp (q3.symm.trans h4)
      subst e
      obtain ⟨f2, c2, r1, r2, r3, r4⟩ := wf_head w2 (by omega) h6
      have lt : f2 < f := by
        cases m with
        | zero =>
          obtain ⟨e1, e2, _⟩ := h6
          have := q1.2 e2
          have := r1.1
          omega
        | succ m =>
          have := r1.2 (by omega)
          have := q1.1
          omega
      exact ⟨f2, c2, ⟨Nat.le_of_lt lt, fun _ => lt⟩, wf_up r2, by omega, by omega⟩
theorem ft_good (hR : ∀ i, R i ∈ us_codes) : ∀ (n f g k s a b : Nat) (G : List Nat) (D : Int32), wf_N K M A B C nd n f g k s a b G → k < 4000 → (∀ t ∈ G, t < a) → b ≤ 200 → D ∈ us_dm → ft_g G (ft K M A B C SZ R n k D)
  | 0, _, _, _, _, _, _, _, _, h, _, _, _, _ => h.elim
  | n + 1, f, g, k, s, a, b, G, D, w, hk, hG, hb, hD => by
    have IH := ft_good hR n
    have o := wf_ord w
    have w0 := w
    unfold ft
    unfold ft_F
    rcases w with ⟨h, _⟩ | ⟨h, _, _, t, e1, e2⟩ | ⟨h, _⟩ | ⟨h, f', g', i, j, c, q1, q2, q3, q4, h1, h2, h3⟩ | ⟨h, f', g', j, q1, q2, q3, q4, h1, h2⟩ | ⟨h, f', g', i, j, c, q1, q2, q3, q4, q5, h1, h2, h3⟩ | ⟨h, f', g', i, j, l, c, e, q1, q2, q3, q4, q5, h1, h2, h3, h4⟩ | ⟨h, f', g', i, j, c, q1, q2, q3, q4, q5, h1, h2, h3⟩ | ⟨h, _, f1, f', i, j, c, q1, q2, q3, q4, h1, h2, h3⟩ | ⟨h, f1, f', i, j, c, q1, q2, q3, q4, h1, h2, h3⟩
    · rw [h, if_neg (by decide), if_neg (by decide), if_neg (by decide), if_neg (by decide), if_neg (by decide), if_neg (by decide), if_neg (by decide), if_neg (by decide)]
      exact ft_gz G
    · rw [h, if_pos rfl, e1]
      have := hG t e2
      rw [nn_n (by omega)]
      exact ft_g1 e2 (by omega) (us_dm_8 _ hD)
    · rw [h, if_neg (by decide), if_neg (by decide), if_neg (by decide), if_neg (by decide), if_neg (by decide), if_neg (by decide), if_neg (by decide), if_neg (by decide)]
      exact ft_gz G
    · have o2 := wf_ord h2
      have o3 := wf_ord h3
      rw [h, if_neg (by decide), if_pos rfl]
      by_cases c0 : D = 0
      · rw [if_pos c0]; exact ft_gz G
      rw [if_neg c0, q3, q4, nn_n (by omega), nn_n (by omega)]
      refine ft_gp (ft_ga _ hG (by omega) h2 (fun D hD => IH _ _ _ _ _ _ _ D h2 (by omega) hG (by omega) hD) us_c20) (ft_ga _ (fun t ht => Nat.lt_of_lt_of_le (hG t ht) o2.2) hb h3 (fun D hD => IH _ _ _ _ _ _ _ D h3 (by omega) (fun t ht => Nat.lt_of_lt_of_le (hG t ht) o2.2) hb hD) us_c20)
    · have o2 := wf_ord h2
      have hG' : ∀ t ∈ (a + 1) :: G, t < a + 2 := fun t ht => (List.mem_cons.mp ht).elim (fun e => by omega) (fun e => by have := hG t e; omega)
      rw [h, if_neg (by decide), if_neg (by decide), if_pos rfl]
      by_cases c0 : D = 0
      · rw [if_pos c0]; exact ft_gz G
      rw [if_neg c0, q3, q4, nn_n (by omega), nn_n (by omega)]
      by_cases c4 : D = 4
      · rw [if_pos c4]
        exact ft_gp (ft_gs1 (by decide)) (ft_gm (ft_gt (by omega) (IH _ _ _ _ _ _ _ 4 h2 (by omega) hG' hb (by decide))))
      · rw [if_neg c4]
        exact ft_gp (ft_gs1 (by decide)) (ft_gt (by omega) (IH _ _ _ _ _ _ _ _ h2 (by omega) hG' hb (us_dm_1 _ hD c0)))
    · have o2 := wf_ord h2
      have o3 := wf_ord h3
      have hG' : ∀ t ∈ a :: G, t < c := fun t ht => (List.mem_cons.mp ht).elim (fun e => by omega) (fun e => by have := hG t e; omega)
      rw [h, if_neg (by decide), if_neg (by decide), if_neg (by decide), if_pos rfl, q3, q4, q5, nn_n (by omega), nn_n (by omega), nn_n (by omega)]
      have g3 := IH _ _ _ _ _ _ _ D h3 (by omega) hG' hb hD
      refine ft_gp (ft_gt (by omega) g3) ?_
      by_cases c0 : ft K M A B C SZ R n j D a = 0
      · rw [if_pos c0]; exact ft_gz G
      · rw [if_neg c0]
        exact IH _ _ _ _ _ _ _ _ h2 (by omega) (fun t ht => Nat.lt_succ_of_lt (hG t ht)) (by omega) (us_dm_7 _ ((g3 a).1 (by omega)).1)
    · have o2 := wf_ord h2
      have o3 := wf_ord h3
      have o4 := wf_ord h4
      rw [h, if_neg (by decide), if_neg (by decide), if_neg (by decide), if_neg (by decide), if_pos rfl, q3, q4, q5, nn_n (by omega), nn_n (by omega), nn_n (by omega)]
      exact ft_gp (IH _ _ _ _ _ _ _ 0 h2 (by omega) hG (by omega) (by decide)) (ft_ge (IH _ _ _ _ _ _ _ D h4 (by omega) (fun t ht => by have := hG t ht; omega) hb hD) (IH _ _ _ _ _ _ _ D h3 (by omega) (fun t ht => by have := hG t ht; omega) (by omega) hD))
    · have o2 := wf_ord h2
      have o3 := wf_ord h3
      have hG' : ∀ t ∈ (c + 1) :: c :: G, t < c + 2 := fun t ht => (List.mem_cons.mp ht).elim (fun e => by omega) (fun e => (List.mem_cons.mp e).elim (fun e => by omega) (fun e => by have := hG t e; omega))
      rw [h, if_neg (by decide), if_neg (by decide), if_neg (by decide), if_neg (by decide), if_neg (by decide), if_pos rfl, q3, q4, q5, nn_n (by omega), nn_n (by omega), nn_n (by omega)]
      have g3 := IH _ _ _ _ _ _ _ D h3 (by omega) hG' hb hD
      have g4 : ft_g (c :: (c + 1) :: G) (ft K M A B C SZ R n j D) := ft_gi (fun t ht => by
        simp only [List.mem_cons] at ht ⊢
        rcases ht with h | h | h
        · exact Or.inr (Or.inl h)
        · exact Or.inl h
        · exact Or.inr (Or.inr h)) g3
      refine ft_gp (ft_gt (by omega) (ft_gt (by omega) g4)) (IH _ _ _ _ _ _ _ _ h2 (by omega) hG (by omega) ?_)
      split <;> decide
    · have o2 := wf_ord h2
      have o3 := wf_ord h3
      rw [h, if_neg (by decide), if_neg (by decide), if_neg (by decide), if_neg (by decide), if_neg (by decide), if_neg (by decide), if_pos rfl, q3, q4, nn_n (by omega), nn_n (by omega)]
      exact ft_gp (IH _ _ _ _ _ _ _ 0 h2 (by omega) hG (by omega) (by decide)) (IH _ _ _ _ _ _ _ 0 h3 (by omega) (fun t ht => by have := hG t ht; omega) hb (by decide))
    · rw [h, if_neg (by decide), if_neg (by decide), if_neg (by decide), if_neg (by decide), if_neg (by decide), if_neg (by decide), if_neg (by decide), if_pos rfl]
      obtain ⟨m, q, hd, r1, r2⟩ := wf_ap w0 hk
      have e := ap_ne r1 (n := 4000) (by omega)
      rw [e.1, e.2]
      obtain ⟨f2, c2, p1, p2, p3, p4⟩ := wf_head w0 hk r1
      have op := wf_ord p2
      have IH' : ∀ f g k s a b G D, wf_N K M A B C nd n f g k s a b G → k < 4000 → (∀ t ∈ G, t < a) → b ≤ 200 → D ∈ us_dm → ft_g G (ft K M A B C SZ R n k D) := IH
      have sp := fun (u : Nat → Int32) hu => ft_gsp (F := ft K M A B C SZ R n) IH' (u := u) hu (Nat.le_refl _) w0 hk hG hb r1
      unfold ft_ap
      by_cases k2 : K hd = 2
      · rw [if_pos k2]
        by_cases c0 : m < nn (SZ (nn (M hd))) ∧ D = 0
        · rw [if_pos c0]; exact ft_gz G
        · rw [if_neg c0]
          refine sp _ (fun i => ?_)
          unfold ap_u
          split
          · exact hR _
          · exact us_c20
      · rw [if_neg k2]
        cases m with
        | zero => exact absurd h (r1.1 ▸ r1.2.1)
        | succ m =>
        by_cases k4 : K hd = 4
        · rw [if_pos k4]
          rcases p2 with ⟨x, _⟩ | ⟨x, _⟩ | ⟨x, _⟩ | ⟨x, _⟩ | ⟨x, f', g', j, q1, q2, q3, q4, h1, h2⟩ | ⟨x, _⟩ | ⟨x, _⟩ | ⟨x, _⟩ | ⟨x, _⟩ | ⟨x, _⟩
          all_goals first | exact absurd (x.symm.trans k4) (by decide) | skip
          have o2 := wf_ord h2
          have hG' : ∀ t ∈ (a + 1) :: G, t < a + 2 := fun t ht => (List.mem_cons.mp ht).elim (fun e => by omega) (fun e => by have := hG t e; omega)
          rw [q3, q4, nn_n (by omega), nn_n (by omega)]
          have hX : ft_g ((a + 1) :: G) (ft K M A B C SZ R n j (if m + 1 = 1 then D else us_hd (nI (m + 1 - 1)) D)) := by
            refine IH _ _ _ _ _ _ _ _ h2 (by omega) hG' (by omega) ?_
            split
            · exact hD
            · exact us_dm_h D (by omega)
          refine ft_gp (ft_gp (ft_gs1 (by decide)) (ft_gt (by omega) hX)) (sp _ (fun i => ?_))
          split
          · exact ((hX _).1 (by omega)).1
          · exact us_c20
        · rw [if_neg k4]
          refine ft_gp ?_ (sp _ (fun i => us_c20))
          -- the head lies one lower
          obtain ⟨h1, h2, j2, h3, h4, h5, h6⟩ := r1
          have w4 : ∃ f3 c3, wf_N K M A B C nd n f3 g hd s a c3 G ∧ c3 ≤ b := by
            rcases w0 with ⟨w, _⟩ | ⟨w, _⟩ | ⟨w, _⟩ | ⟨w, _⟩ | ⟨w, _⟩ | ⟨w, _⟩ | ⟨w, _⟩ | ⟨w, _⟩ | ⟨w, _⟩ | ⟨w, f1, f', i, j3, c, q1, q2, q3, q4, w1, w2, w3⟩
            all_goals first | exact absurd (w.symm.trans h1) (by decide) | skip
            have o2 := wf_ord w2
            have o3 := wf_ord w3
            have e : i = j2 := (nI_eq (by omega) (by omega)).mp (q3.symm.trans h4)
            subst e
            obtain ⟨f2, c2, _, r2, r3, _⟩ := wf_head w2 (by omega) h6
            exact ⟨f2, c2, r2, by omega⟩
          obtain ⟨f3, c3, w5, w6⟩ := w4
          exact IH _ _ _ _ _ _ _ _ w5 (by omega) hG (by omega) (us_dm_h D (by omega))
end WF
