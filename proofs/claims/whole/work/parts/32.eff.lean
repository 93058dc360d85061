/-! effects of runs of tasks, and how they follow each other -/
theorem us_max_assoc (a b c : Int32) : us_max (us_max a b) c = us_max a (us_max b c) := by
  unfold us_max
  simp only [Int32.lt_iff_toInt_lt]
  repeat' split
  all_goals first | rfl | (exfalso; omega)
theorem us_max_comm (a b : Int32) : us_max a b = us_max b a := by
  unfold us_max
  simp only [Int32.lt_iff_toInt_lt]
  repeat' split
  · exfalso; omega
  · rfl
  · rfl
  · exact Int32.toInt_inj.mp (by omega)
theorem us_sn_0 : ∀ a ∈ ([0, 1, 2] : List Int32), us_max a 0 = a ∧ us_max 0 a = a := by decide +kernel
def ft_v (V X : Nat → Int32) : Nat → Int32 := fun t => us_both (V t) (X t)
def ft_w (S X : Nat → Int32) : Nat → Int32 := fun t => us_max (S t) (X (200 + t))
def vs_ok (V S : Nat → Int32) : Prop := ∀ t, t < 200 → V t ∈ us_codes ∧ S t ∈ ([0, 1, 2] : List Int32)
theorem ft_pl {X Y : Nat → Int32} {t : Nat} (h : t < 200) : ft_p X Y t = us_both (X t) (Y t) := if_pos h
theorem ft_ph {X Y : Nat → Int32} {t : Nat} : ft_p X Y (200 + t) = us_max (X (200 + t)) (Y (200 + t)) := if_neg (by omega)
theorem vs_next {V S X : Nat → Int32} {G : List Nat} (h : vs_ok V S) (hX : ft_g G X) : vs_ok (ft_v V X) (ft_w S X) := fun t ht => ⟨us_both_in _ (h t ht).1 _ ((hX t).1 ht).1, us_sn_max _ (h t ht).2 _ ((hX (200 + t)).2 (by omega))⟩
theorem vs_zero {S : Nat → Int32} {V : Nat → Int32} (h : vs_ok V S) : vs_ok (fun _ => 0) S := fun t ht => ⟨us_c0, (h t ht).2⟩
section EA
variable {h0 : Nat → Nat → Int32} {L H : Nat} {hl : Nat → Nat → Int64} {Vs : List (Nat → Int32)} {V : Nat → Int32} {S : Nat → Int32} {ts ts1 ts2 : List (Int32 × Int32 × Int32)}
theorem fi_Rc {m : Nat} {Vs0 : List (Nat → Int32)} {V' V'' S0 S' S'' : Nat → Int32} (h : fi_R h0 L H hl m ts Vs0 S0 ts1 (V' :: Vs) S') (e : ∀ t, L ≤ t → t < H → V' t = V'' t) (e' : ∀ t, t < 200 → S' t = S'' t) : fi_R h0 L H hl m ts Vs0 S0 ts1 (V'' :: Vs) S'' := by
  intro d n i x1 x2 hi q1 q2
  obtain ⟨hi', r1, r2⟩ := h d n i x1 x2 hi q1 q2
  exact ⟨hi', r1, fi_cg r2 e e'⟩
def fe (h0 : Nat → Nat → Int32) (L H : Nat) (hl : Nat → Nat → Int64) (m : Nat) (ts ts1 : List (Int32 × Int32 × Int32)) (V : Nat → Int32) (Vs : List (Nat → Int32)) (S X : Nat → Int32) : Prop := ∃ m', m' ≤ m ∧ fi_R h0 L H hl m' ts (V :: Vs) S ts1 (ft_v V X :: Vs) (ft_w S X)
theorem fe_z (hH : H ≤ 200) (hv : vs_ok V S) : fe h0 L H hl 0 ts ts V Vs S ft_z := ⟨0, Nat.le_refl _, fi_Rc fi_refl (fun t _ h => ((us_both_zero _ (hv t (by omega)).1).2).symm) (fun t h => ((us_sn_0 _ (hv t h).2).1).symm)⟩
theorem fe_seq {m1 m2 : Nat} {X Y : Nat → Int32} {G G' : List Nat} (hH : H ≤ 200) (hv : vs_ok V S) (hX : ft_g G X) (hY : ft_g G' Y) (a : fe h0 L H hl m1 ts ts1 V Vs S X) (b : fe h0 L H hl m2 ts1 ts2 (ft_v V X) Vs (ft_w S X) Y) : fe h0 L H hl (m1 + m2) ts ts2 V Vs S (ft_p X Y) := by
  obtain ⟨n1, a1, a2⟩ := a
  obtain ⟨n2, b1, b2⟩ := b
  refine ⟨n1 + n2, by omega, fi_Rc (fi_trans a2 b2) (fun t _ h => ?_) (fun t h => ?_)⟩
  · unfold ft_v
    rw [ft_pl (by omega)]
    exact us_both_assoc _ (hv t (by omega)).1 _ ((hX t).1 (by omega)).1 _ ((hY t).1 (by omega)).1
  · unfold ft_w
    rw [ft_ph]
    exact us_max_assoc _ _ _
theorem fe_le {m m2 : Nat} {X : Nat → Int32} (h : m ≤ m2) (a : fe h0 L H hl m ts ts1 V Vs S X) : fe h0 L H hl m2 ts ts1 V Vs S X := by
  obtain ⟨n, h1, h2⟩ := a
  exact ⟨n, by omega, h2⟩
/-- a turn that changes tasks alone, ahead of an effect -/
theorem fe_pre {m : Nat} {X : Nat → Int32} (a : fi_R h0 L H hl 1 ts (V :: Vs) S ts1 (V :: Vs) S) (b : fe h0 L H hl m ts1 ts2 V Vs S X) : fe h0 L H hl (m + 1) ts ts2 V Vs S X := by
  obtain ⟨n, h1, h2⟩ := b
  exact ⟨1 + n, by omega, fi_trans a h2⟩
/-- what a take makes of the top -/
theorem ft_vt {X : Nat → Int32} {a t : Nat} (hv : V a = 0) (hvs : vs_ok V S) (h : t < 200) (ha : a < 200) : fi_u (ft_v V X) a 0 t = ft_v V (ft_t X a) t := by
  unfold fi_u ft_v ft_t
  by_cases c : t = a
  · rw [if_pos c, if_pos c, c, hv]; decide
  · rw [if_neg c, if_neg c, if_neg (by omega)]
theorem ft_va {X : Nat → Int32} {a : Nat} {G : List Nat} (hv : V a = 0) (hX : ft_g G X) (ha : a < 200) : ft_v V X a = X a := by
  unfold ft_v
  rw [hv]
  exact (us_both_zero _ ((hX a).1 ha).1).1
theorem ft_wt {X : Nat → Int32} {a t : Nat} {G : List Nat} (hv : V a = 0) (hX : ft_g G X) (h : t < 200) (ha : a < 200) : fi_m (ft_w S X) a (ft_v V X a) t = ft_w S (ft_t X a) t := by
  rw [ft_va hv hX ha]
  unfold fi_m fi_u ft_w ft_t
  by_cases c : t = a
  · rw [if_pos c, if_neg (by omega), if_pos (by omega), c]; exact us_max_assoc _ _ _
  · rw [if_neg c, if_neg (by omega), if_neg (by omega)]
theorem fe_thing {k t : Nat} {D : Int32} (hH : H ≤ 200) (hk : k < 4000) (hlen : ts.length < 4000) (hV : Vs.length < 82) (hv : vs_ok V S) (h : h0 26 k = 1) (h2 : h0 27 k = nI t) (ht : L ≤ t ∧ t < H) : fe h0 L H hl 1 ((0, nI k, D) :: ts) ts V Vs S (ft_1 t (8 + D)) := by
  refine ⟨1, Nat.le_refl _, fi_Rc (fi_turn hH hlen (fi_PV (fv_thing hH hk hV h h2 ht))) (fun x _ hx => ?_) (fun x hx => ?_)⟩
  · unfold fi_u ft_v ft_1
    by_cases c : x = t
    · rw [if_pos c, if_pos c, c]
    · rw [if_neg c, if_neg c]; exact ((us_both_zero _ (hv x (by omega)).1).2).symm
  · unfold ft_w ft_1
    rw [if_neg (by omega)]
    exact ((us_sn_0 _ (hv x hx).2).1).symm
/-- an ARGUMENT, given what a visit of it does -/
theorem fe_arg {m k : Nat} {u : Int32} (F : Nat → Int32 → Nat → Int32) (hH : H ≤ 200) (hk : k < 4000) (hlen : ts.length < 4000) (hV : Vs.length < 82) (hv : vs_ok V S) (hM : h0 26 k = 1 → ∃ t, h0 27 k = nI t ∧ L ≤ t ∧ t < H) (hF : fe h0 L H hl m ((0, nI k, u &&& 7) :: ts) ts V Vs S (F k (u &&& 7))) : fe h0 L H hl (m + 1) ((1, nI k, u) :: ts) ts V Vs S (ft_a (h0 26) (h0 27) F k u) := by
  have p := fi_turn hH hlen (fp_arg (hl := hl) (V := V) (Vs := Vs) (S := S) (u := u) hH hk hV hlen hM)
  unfold ft_a
  by_cases c : u = 0
  · rw [if_pos c]
    refine fe_le (Nat.succ_le_succ (Nat.zero_le m)) (fe_pre ?_ (fe_z hH hv))
    rw [show fa_ts (h0 26) k u ts = ts from if_pos (Or.inl c), show fa_V (h0 26) (h0 27) k u V = V from if_neg (fun e => e.1 c)] at p
    exact p
  rw [if_neg c]
  by_cases c2 : h0 26 k = 1
  · rw [if_pos c2]
    obtain ⟨t, h1, h2, h3⟩ := hM c2
    rw [show fa_ts (h0 26) k u ts = ts from if_pos (Or.inr c2), show fa_V (h0 26) (h0 27) k u V = fi_u V t (us_both (V t) u) from (if_pos ⟨c, c2⟩).trans (by rw [h1, nI_clamp (by omega)])] at p
    rw [h1, nn_n (by omega)]
    refine ⟨1, by omega, fi_Rc p (fun x _ hx => ?_) (fun x hx => ?_)⟩
    · unfold fi_u ft_v ft_1
      by_cases c : x = t
      · rw [if_pos c, if_pos c, c]
      · rw [if_neg c, if_neg c]; exact ((us_both_zero _ (hv x (by omega)).1).2).symm
    · unfold ft_w ft_1
      rw [if_neg (by omega)]
      exact ((us_sn_0 _ (hv x hx).2).1).symm
  · rw [if_neg c2]
    rw [show fa_ts (h0 26) k u ts = (0, nI k, u &&& 7) :: ts from if_neg (fun e => e.elim c c2), show fa_V (h0 26) (h0 27) k u V = V from if_neg (fun e => c2 e.2)] at p
    exact fe_pre p hF
end EA
