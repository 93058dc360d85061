/-! both parsers side by side: tokens, bounds -/
def gt (t : Nat) : Nat := if t = 2 then 4 else if t = 3 then 2 else if t = 41 then 0 else 3
/-- the end of the token ahead of the k-th -/
def ep (B : Nat → Nat) (N : Nat) : Nat → Nat
  | 0 => 0
  | k + 1 => te B N (tp B N k)
def ga (B : Nat → Nat) (N : Nat) : Nat → Nat
  | 0 => 3
  | k + 1 => gt (tok B N (tp B N k))
def qk (B : Nat → Nat) (N k : Nat) : Nat := 4 * ep B N k + ga B N k
section QK
variable {B : Nat → Nat} {N k s : Nat}
theorem gt_4 (t : Nat) : gt t ≤ 4 := by
  unfold gt
  repeat' split
  all_goals omega
theorem ga_4 : ga B N k ≤ 4 := by
  cases k with
  | zero => exact (by decide : 3 ≤ 4)
  | succ k => exact gt_4 _
theorem te_g (h : s ≤ N) : s ≤ te B N s ∧ te B N s ≤ N ∧ (s < N → s + 1 ≤ te B N s) := by
  unfold te
  by_cases c : N ≤ s
  · rw [if_pos c]; omega
  · rw [if_neg c]
    by_cases c1 : ch_l (B s) = true
    · rw [if_pos c1]
      have e : la B N s = ru ch_a B N 1999 (s + 1) := if_pos ⟨by omega, by simp [ch_a, c1]⟩
      have g := ru_g (P := ch_a) (B := B) (N := N) (n := 1999) (p := s + 1)
      rw [e]
      have := g.1; have := g.2.1 (by omega); omega
    · rw [if_neg c1]
      by_cases c2 : ch_f (B s) = true
      · rw [if_pos c2]
        have e : lf B N s = ru ch_f B N 1999 (s + 1) := if_pos ⟨by omega, c2⟩
        have g := ru_g (P := ch_f) (B := B) (N := N) (n := 1999) (p := s + 1)
        rw [e]
        have := g.1; have := g.2.1 (by omega); omega
      · rw [if_neg c2]; omega
theorem sk_g {p : Nat} : p ≤ sk B N p ∧ (p ≤ N → sk B N p ≤ N) := ⟨ru_g.1, ru_g.2.1⟩
theorem tp_N : tp B N k ≤ N := by
  induction k with
  | zero => exact sk_g.2 (Nat.zero_le _)
  | succ k ih => exact sk_g.2 (te_g ih).2.1
theorem tp_ep : ep B N k ≤ tp B N k := by
  cases k with
  | zero => exact Nat.zero_le _
  | succ k => exact sk_g.1
theorem ep_N : ep B N k ≤ N := Nat.le_trans tp_ep tp_N
/-- behind the last token there is none -/
theorem tp_E (h : tp B N k = N) : tp B N (k + 1) = N := by
  show sk B N (te B N (tp B N k)) = N
  rw [h]
  have e : te B N N = N := by unfold te; rw [if_pos (Nat.le_refl _)]
  rw [e, sk_0 (by omega)]
theorem tp_L {M : Nat} (hM : tp B N M = N) : ∀ {j : Nat}, M ≤ j → tp B N j = N
  | 0, h => by rw [← hM]; congr 1; omega
  | j + 1, h => by
    by_cases e : M = j + 1
    · rw [← e]; exact hM
    · exact tp_E (tp_L hM (by omega))
theorem tok_0 : tok B N s = 0 ↔ N ≤ s := by
  unfold tok
  by_cases c : N ≤ s
  · rw [if_pos c]; exact ⟨fun _ => c, fun _ => rfl⟩
  · rw [if_neg c]
    refine ⟨fun q => ?_, fun q => absurd q c⟩
    exfalso
    revert q
    split
    · split
      · exact (by decide)
      · have := wd_2 (nm B s (la B N s - s)); omega
    · split
      · split <;> exact (by decide)
      · split
        · next h =>
          simp [ch_s] at h
          omega
        · exact (by decide)
/-- what a token is, by its number -/
theorem tok_n (h : tok B N s = 2) : s < N ∧ ch_l (B s) = true ∧ la B N s - s ≤ 8 := by
  have c : ¬ N ≤ s := fun q => by rw [tok_0.mpr q] at h; exact absurd h (by decide)
  unfold tok at h
  rw [if_neg c] at h
  by_cases c1 : ch_l (B s) = true
  · rw [if_pos c1] at h
    refine ⟨by omega, c1, ?_⟩
    by_cases c2 : 8 < la B N s - s
    · rw [if_pos c2] at h; exact absurd h (by decide)
    · omega
  · rw [if_neg c1] at h
    exfalso
    revert h
    split
    · split <;> exact (by decide)
    · split
      · next hs => simp [ch_s] at hs; omega
      · exact (by decide)
theorem tok_3 (h : tok B N s = 3) : s < N ∧ ch_l (B s) = false ∧ ch_f (B s) = true := by
  have c : ¬ N ≤ s := fun q => by rw [tok_0.mpr q] at h; exact absurd h (by decide)
  unfold tok at h
  rw [if_neg c] at h
  by_cases c1 : ch_l (B s) = true
  · rw [if_pos c1] at h
    exfalso
    revert h
    split
    · exact (by decide)
    · unfold wd
      repeat' split
      all_goals decide
  · rw [if_neg c1] at h
    by_cases c2 : ch_f (B s) = true
    · exact ⟨by omega, by simpa using c1, c2⟩
    · rw [if_neg c2] at h
      exfalso
      revert h
      split
      · next hs => simp [ch_s] at hs; omega
      · exact (by decide)
/-- two tokens side by side -/
theorem tp_gap (hN : N ≤ 2000) (h : tok B N (tp B N (k + 1)) = 2 ∨ tok B N (tp B N (k + 1)) = 3) (g : (tok B N (tp B N k) = 2) ∨ (tok B N (tp B N k) = 3 ∧ tok B N (tp B N (k + 1)) = 3)) : ep B N (k + 1) + 1 ≤ tp B N (k + 1) := by
  have a := tp_ep (B := B) (N := N) (k := k + 1)
  rcases Nat.lt_or_ge (ep B N (k + 1)) (tp B N (k + 1)) with q | q
  · exact q
  · exfalso
    have e : tp B N (k + 1) = te B N (tp B N k) := Nat.le_antisymm q a
    have al : tp B N (k + 1) < N ∧ ch_a (B (tp B N (k + 1))) = true := by
      rcases h with h | h
      · have := tok_n h; exact ⟨this.1, by simp [ch_a, this.2.1]⟩
      · have := tok_3 h; exact ⟨this.1, by simp [ch_a, this.2.2]⟩
    rcases g with g | ⟨g, g2⟩
    · obtain ⟨n1, n2, n3⟩ := tok_n g
      have ee : te B N (tp B N k) = la B N (tp B N k) := by unfold te; rw [if_neg (by omega), if_pos n2]
      have s := ru_s (P := ch_a) (B := B) (N := N) (n := 2000) (p := tp B N k) (by omega)
      rw [e, ee] at al
      exact s al
    · obtain ⟨n1, n2, n3⟩ := tok_3 g
      have ee : te B N (tp B N k) = lf B N (tp B N k) := by unfold te; rw [if_neg (by omega), if_neg (by rw [n2]; decide), if_pos n3]
      have s := ru_s (P := ch_f) (B := B) (N := N) (n := 2000) (p := tp B N k) (by omega)
      have f := (tok_3 g2).2.2
      rw [e, ee] at f
      rw [e, ee] at al
      exact s ⟨al.1, f⟩
theorem qk_1 (h : tok B N (tp B N k) ≠ 0) : qk B N k + 4 + gt (tok B N (tp B N k)) ≤ qk B N (k + 1) + ga B N k := by
  have c : tp B N k < N := by
    rcases Nat.lt_or_ge (tp B N k) N with q | q
    · exact q
    · exact absurd (tok_0.mpr q) h
  have a := (te_g (B := B) (N := N) (s := tp B N k) tp_N).2.2 c
  have b := tp_ep (B := B) (N := N) (k := k)
  unfold qk
  show 4 * ep B N k + ga B N k + 4 + gt (tok B N (tp B N k)) ≤ 4 * te B N (tp B N k) + gt (tok B N (tp B N k)) + ga B N k
  omega
/-- a SIGN or a WORD; a bracket's end -/
theorem qk_s (h : tok B N (tp B N k) ≠ 0) (h2 : tok B N (tp B N k) ≠ 2) (h3 : tok B N (tp B N k) ≠ 3) (h4 : tok B N (tp B N k) ≠ 41) : qk B N k + 3 ≤ qk B N (k + 1) := by
  have a := qk_1 h
  have b := ga_4 (B := B) (N := N) (k := k)
  have e : gt (tok B N (tp B N k)) = 3 := by unfold gt; rw [if_neg h2, if_neg h3, if_neg h4]
  omega
theorem qk_b (h : tok B N (tp B N k) = 41) : qk B N k ≤ qk B N (k + 1) := by
  have a := qk_1 (B := B) (N := N) (k := k) (by rw [h]; decide)
  have b := ga_4 (B := B) (N := N) (k := k)
  omega
theorem qk_n (hN : N ≤ 2000) (h : tok B N (tp B N k) = 2) : qk B N k + 5 ≤ qk B N (k + 1) ∧ (ga B N k ≠ 3 → qk B N k + 6 ≤ qk B N (k + 1)) := by
  have a := qk_1 (B := B) (N := N) (k := k) (by rw [h]; decide)
  have e : gt (tok B N (tp B N k)) = 4 := by rw [h]; rfl
  rw [e] at a
  cases k with
  | zero => exact ⟨by have : ga B N 0 = 3 := rfl; omega, fun q => absurd rfl q⟩
  | succ k =>
    by_cases c : tok B N (tp B N k) = 2
    · have g := tp_gap hN (Or.inl h) (Or.inl c)
      have t := (te_g (B := B) (N := N) (s := tp B N (k + 1)) tp_N).2.2 (tok_n h).1
      have g1 : ga B N (k + 1) = 4 := by show gt _ = 4; rw [c]; rfl
      have g2 : ga B N (k + 1 + 1) = 4 := by show gt _ = 4; rw [h]; rfl
      have g3 : ep B N (k + 1 + 1) = te B N (tp B N (k + 1)) := rfl
      unfold qk
      omega
    · have g1 : ga B N (k + 1) ≤ 3 := by
        show gt _ ≤ 3
        unfold gt
        rw [if_neg c]
        repeat' split
        all_goals omega
      have g2 : ga B N (k + 1) = 3 ∨ ga B N (k + 1) ≤ 2 := by omega
      refine ⟨by omega, fun q => by omega⟩
theorem qk_u (hN : N ≤ 2000) (h : tok B N (tp B N k) = 3) : qk B N k + 3 ≤ qk B N (k + 1) ∧ (ga B N k ≠ 3 → qk B N k + 6 ≤ qk B N (k + 1)) := by
  have a := qk_1 (B := B) (N := N) (k := k) (by rw [h]; decide)
  have e : gt (tok B N (tp B N k)) = 2 := by rw [h]; rfl
  rw [e] at a
  cases k with
  | zero => exact ⟨by have : ga B N 0 = 3 := rfl; omega, fun q => absurd rfl q⟩
  | succ k =>
    have t := (te_g (B := B) (N := N) (s := tp B N (k + 1)) tp_N).2.2 (tok_3 h).1
    have g2 : ga B N (k + 1 + 1) = 2 := by show gt _ = 2; rw [h]; rfl
    have g3 : ep B N (k + 1 + 1) = te B N (tp B N (k + 1)) := rfl
    by_cases c : tok B N (tp B N k) = 2
    · have g := tp_gap hN (Or.inr h) (Or.inl c)
      have g1 : ga B N (k + 1) = 4 := by show gt _ = 4; rw [c]; rfl
      unfold qk
      omega
    · by_cases c3 : tok B N (tp B N k) = 3
      · have g := tp_gap hN (Or.inr h) (Or.inr ⟨c3, h⟩)
        have g1 : ga B N (k + 1) = 2 := by show gt _ = 2; rw [c3]; rfl
        unfold qk
        omega
      · have g1 : ga B N (k + 1) = 0 ∨ ga B N (k + 1) = 3 := by
          show gt _ = 0 ∨ gt _ = 3
          unfold gt
          rw [if_neg c, if_neg c3]
          by_cases c4 : tok B N (tp B N k) = 41
          · rw [if_pos c4]; exact Or.inl rfl
          · rw [if_neg c4]; exact Or.inr rfl
        rcases g1 with g1 | g1
        · omega
        · exact ⟨by omega, fun q => absurd g1 q⟩
theorem qk_N (hN : N ≤ 2000) : qk B N k ≤ 8004 := by
  have a := ep_N (B := B) (N := N) (k := k)
  have b := ga_4 (B := B) (N := N) (k := k)
  unfold qk
  omega
end QK
