/-! copyRow: its operations by hand; copyFrom -/
section CY
variable {C : am_C} {J : am_J} {r : List am_O} {pc l a b c : Nat} {tb : List (Int32 × Nat)} {ls : am_L} {st : List Value} {G : am_G}
theorem cy_al {i : Fin 4} {x : Nat} (h : am_get ls i.val = some (.ref x)) : am_ops C J ((.aload_n i, l, a, b, c, tb) :: r) pc ls st G = am_ops C J r (pc + l) ls (.ref x :: st) G := by
  show am_lda ls i.val _ = _
  unfold am_lda
  rw [h]
theorem cy_il {i : Fin 4} {x : Int32} (h : am_get ls i.val = some (.int x)) : am_ops C J ((.iload_n i, l, a, b, c, tb) :: r) pc ls st G = am_ops C J r (pc + l) ls (.int x :: st) G := by
  show am_ldi ls i.val _ = _
  unfold am_ldi
  rw [h]
theorem cy_len {x n : Nat} (h : G.1[x]? = some (100, n, [])) : am_ops C J ((.arraylength, l, a, b, c, tb) :: r) pc ls (.ref x :: st) G = am_ops C J r (pc + l) ls (.int (Int32.ofNat n) :: st) G := by
  show am_sh G x _ = _
  unfold am_sh
  rw [h]
  exact if_pos ⟨Nat.le_refl 100, (show (100 : Nat) ≤ 103 by decide)⟩
theorem cy_min {ix : Nat} {x y : Int32} (h : am_cat st ≤ 8) : am_ops C J ((.invokestatic ix, l, a, b, 6, tb) :: r) pc ls (.int y :: .int x :: st) G = am_ops C J r (pc + l) ls (.int (if y < x then y else x) :: st) G := by
  show (if am_cat st ≤ 8 then _ else _) = _
  rw [if_pos h]
theorem cy_max {ix : Nat} {x y : Int32} (h : am_cat st ≤ 8) : am_ops C J ((.invokestatic ix, l, a, b, 7, tb) :: r) pc ls (.int y :: .int x :: st) G = am_ops C J r (pc + l) ls (.int (if x < y then y else x) :: st) G := by
  show (if am_cat st ≤ 8 then _ else _) = _
  rw [if_pos h]
theorem cy_st {i : Fin 4} {x : Int32} : am_ops C J ((.istore_n i, l, a, b, c, tb) :: r) pc ls (.int x :: st) G = am_ops C J r (pc + l) (am_put ls i.val (.int x)) st G := rfl
theorem cy_k {z : Int} {x : Int32} {y : Nat} : am_ops C J ((.iconst z, l, a, b, c, [(x, y)]) :: r) pc ls st G = am_ops C J r (pc + l) ls (.int x :: st) G := rfl
theorem cy_cp {ix : Nat} {n : Int32} {src dst : Nat} (h : am_cat st ≤ 8) : am_ops C J ((.invokestatic ix, l, a, b, 9, tb) :: r) pc ls (.int n :: .int 0 :: .ref dst :: .int 0 :: .ref src :: st) G = am_copy G src 0 dst 0 n fun G => am_ops C J r (pc + l) ls st G := by
  show (if am_cat st ≤ 8 then _ else _) = _
  rw [if_pos h]
end CY
/-- copyRow -/
def cpr (h : Nat → Nat → Int32) (src dst s : Nat) : Nat → Nat → Int32 := am_sr h dst (va_cpy (h src) (h dst) 0 0 s)
theorem cpr_ne {h : Nat → Nat → Int32} {src dst s c : Nat} (q : c ≠ dst) : cpr h src dst s c = h c := by
  funext x
  exact if_neg q
theorem cpr_at {h : Nat → Nat → Int32} {src dst s i : Nat} (q : i < s) : cpr h src dst s dst i = h src i := by
  unfold cpr am_sr va_cpy
  rw [if_pos rfl, if_pos ⟨Nat.zero_le _, by omega⟩, Nat.zero_add, Nat.sub_zero]
theorem ea_copyRow (d : Nat) {src dst s n : Nat} {S : List am_Sh} {h : Nat → Nat → Int32} {hl : Nat → Nat → Int64} (h1 : S[src]? = some (100, n, [])) (h2 : S[dst]? = some (100, n, [])) (hs : s ≤ n) (hn : n ≤ 4000) : am_call tb_P (d + 1) 210 [.ref src, .ref dst, .int (nI s)] (S, h, hl) = some (none, (S, cpr h src dst s, hl)) := by
  have a2 : (if Int32.ofNat n < nI s then Int32.ofNat n else nI s) = nI s := if_neg (show ¬ nI n < nI s from nI_nlt hs (by omega))
  have a3 : (if (0 : Int32) < nI s then nI s else 0) = nI s := by
    by_cases z : s = 0
    · subst z; rfl
    · exact if_pos (show nI 0 < nI s from nI_lt (by omega) (by omega))
  rw [ev_en (mL := 4) (bs := tb_r210_0) rfl (Nat.le_of_ble_eq_true rfl)]
  rw [show ∀ (C : am_C) (back : am_J) (ls : am_L) (st : List Value) (G : am_G), am_fwd C back tb_r210_0 0 ls st G = am_ops C (am_fwd C back tb_r210_1) tb_o210_0 0 ls st G from fun _ _ _ _ _ => if_pos rfl]
  unfold tb_o210_0 tb_s210_7 tb_s210_18 tb_s210_21
  rw [cy_al (x := src) rfl, cy_len h1, cy_al (x := dst) rfl, cy_len h2, cy_min (Nat.le_of_ble_eq_true rfl), if_neg (Int32.lt_irrefl), cy_st, cy_al (x := src) rfl, cy_k, cy_al (x := dst) rfl, cy_k, cy_k, cy_il (x := nI s) rfl, cy_il (x := Int32.ofNat n) rfl, cy_min (Nat.le_of_ble_eq_true rfl), a2, cy_max (Nat.le_of_ble_eq_true rfl), a3, cy_cp (Nat.le_of_ble_eq_true rfl)]
  unfold am_copy am_sh
  rw [h1, h2]
  show (if _ then _ else _) = _
  rw [if_pos ⟨rfl, rfl, by decide, by decide, nI_pos (by omega), by rw [nI_clamp (by omega)]; show 0 + s ≤ n; omega, by rw [nI_clamp (by omega)]; show 0 + s ≤ n; omega⟩]
  rw [nI_clamp (by omega)]
  rfl
theorem ea_copyFrom (d : Nat) {nd nt nn : Nat} (h : Nat → Nat → Int32) (hl : Nat → Nat → Int64) (h0 : h 3 0 = nI nd) (h1 : h 3 1 = nI nt) (h2 : h 3 2 = nI nn) (b0 : nd ≤ 24) (b1 : nt ≤ 200) (b2 : nn ≤ 4000) : ∃ h', am_call tb_P (d + 2) 209 [.ref 17, .ref 3] (pr_S, h, hl) = some (none, (pr_S, h', hl)) ∧ (∀ c, (c < 17 ∨ 30 < c) → h' c = h c) ∧ h' 17 0 = nI nd ∧ h' 17 1 = nI nt ∧ (∀ c i, 5 ≤ c → c ≤ 8 → i < nd → h' (c + 14) i = h c i) ∧ (∀ c i, 9 ≤ c → c ≤ 11 → i < nt → h' (c + 14) i = h c i) ∧ (∀ c i, 12 ≤ c → c ≤ 16 → i < nn → h' (c + 14) i = h c i) := by
  obtain ⟨k0, e0⟩ : ∃ x, x = am_si (am_si (am_si h 17 0 (h 3 0)) 17 1 (h 3 1)) 17 2 (h 3 2) := ⟨_, rfl⟩
  have z0 : k0 17 0 = nI nd := by rw [e0, am_si_off (by decide), am_si_off (by decide), am_si_at]; exact h0
  have z1 : k0 17 1 = nI nt := by rw [e0, am_si_off (by decide), am_si_at]; exact h1
  have z2 : k0 17 2 = nI nn := by rw [e0, am_si_at]; exact h2
  have z3 : ∀ c, c ≠ 17 → k0 c = h c := fun c q => by rw [e0, am_si_ne q, am_si_ne q, am_si_ne q]
  obtain ⟨k1, e1⟩ : ∃ x, x = cpr k0 5 19 nd := ⟨_, rfl⟩
  have p1 : k1 17 = k0 17 := by rw [e1, cpr_ne (by decide)]
  have c1 : am_call tb_P (d + 1) 210 [.ref 5, .ref 19, .int (h 3 0)] (pr_S, k0, hl) = some (none, (pr_S, k1, hl)) := by rw [h0, e1]; exact ea_copyRow d rfl rfl b0 (by decide)
  obtain ⟨k2, e2⟩ : ∃ x, x = cpr k1 6 20 nd := ⟨_, rfl⟩
  have p2 : k2 17 = k0 17 := by rw [e2, cpr_ne (by decide), p1]
  have c2 : am_call tb_P (d + 1) 210 [.ref 6, .ref 20, .int (k1 17 0)] (pr_S, k1, hl) = some (none, (pr_S, k2, hl)) := by rw [p1, z0, e2]; exact ea_copyRow d rfl rfl b0 (by decide)
  obtain ⟨k3, e3⟩ : ∃ x, x = cpr k2 7 21 nd := ⟨_, rfl⟩
  have p3 : k3 17 = k0 17 := by rw [e3, cpr_ne (by decide), p2]
  have c3 : am_call tb_P (d + 1) 210 [.ref 7, .ref 21, .int (k2 17 0)] (pr_S, k2, hl) = some (none, (pr_S, k3, hl)) := by rw [p2, z0, e3]; exact ea_copyRow d rfl rfl b0 (by decide)
  obtain ⟨k4, e4⟩ : ∃ x, x = cpr k3 8 22 nd := ⟨_, rfl⟩
  have p4 : k4 17 = k0 17 := by rw [e4, cpr_ne (by decide), p3]
  have c4 : am_call tb_P (d + 1) 210 [.ref 8, .ref 22, .int (k3 17 0)] (pr_S, k3, hl) = some (none, (pr_S, k4, hl)) := by rw [p3, z0, e4]; exact ea_copyRow d rfl rfl b0 (by decide)
  obtain ⟨k5, e5⟩ : ∃ x, x = cpr k4 9 23 nt := ⟨_, rfl⟩
  have p5 : k5 17 = k0 17 := by rw [e5, cpr_ne (by decide), p4]
  have c5 : am_call tb_P (d + 1) 210 [.ref 9, .ref 23, .int (k4 17 1)] (pr_S, k4, hl) = some (none, (pr_S, k5, hl)) := by rw [p4, z1, e5]; exact ea_copyRow d rfl rfl b1 (by decide)
  obtain ⟨k6, e6⟩ : ∃ x, x = cpr k5 10 24 nt := ⟨_, rfl⟩
  have p6 : k6 17 = k0 17 := by rw [e6, cpr_ne (by decide), p5]
  have c6 : am_call tb_P (d + 1) 210 [.ref 10, .ref 24, .int (k5 17 1)] (pr_S, k5, hl) = some (none, (pr_S, k6, hl)) := by rw [p5, z1, e6]; exact ea_copyRow d rfl rfl b1 (by decide)
  obtain ⟨k7, e7⟩ : ∃ x, x = cpr k6 11 25 nt := ⟨_, rfl⟩
  have p7 : k7 17 = k0 17 := by rw [e7, cpr_ne (by decide), p6]
  have c7 : am_call tb_P (d + 1) 210 [.ref 11, .ref 25, .int (k6 17 1)] (pr_S, k6, hl) = some (none, (pr_S, k7, hl)) := by rw [p6, z1, e7]; exact ea_copyRow d rfl rfl b1 (by decide)
  obtain ⟨k8, e8⟩ : ∃ x, x = cpr k7 12 26 nn := ⟨_, rfl⟩
  have p8 : k8 17 = k0 17 := by rw [e8, cpr_ne (by decide), p7]
  have c8 : am_call tb_P (d + 1) 210 [.ref 12, .ref 26, .int (k7 17 2)] (pr_S, k7, hl) = some (none, (pr_S, k8, hl)) := by rw [p7, z2, e8]; exact ea_copyRow d rfl rfl b2 (by decide)
  obtain ⟨k9, e9⟩ : ∃ x, x = cpr k8 13 27 nn := ⟨_, rfl⟩
  have p9 : k9 17 = k0 17 := by rw [e9, cpr_ne (by decide), p8]
  have c9 : am_call tb_P (d + 1) 210 [.ref 13, .ref 27, .int (k8 17 2)] (pr_S, k8, hl) = some (none, (pr_S, k9, hl)) := by rw [p8, z2, e9]; exact ea_copyRow d rfl rfl b2 (by decide)
  obtain ⟨k10, e10⟩ : ∃ x, x = cpr k9 14 28 nn := ⟨_, rfl⟩
  have p10 : k10 17 = k0 17 := by rw [e10, cpr_ne (by decide), p9]
  have c10 : am_call tb_P (d + 1) 210 [.ref 14, .ref 28, .int (k9 17 2)] (pr_S, k9, hl) = some (none, (pr_S, k10, hl)) := by rw [p9, z2, e10]; exact ea_copyRow d rfl rfl b2 (by decide)
  obtain ⟨k11, e11⟩ : ∃ x, x = cpr k10 15 29 nn := ⟨_, rfl⟩
  have p11 : k11 17 = k0 17 := by rw [e11, cpr_ne (by decide), p10]
  have c11 : am_call tb_P (d + 1) 210 [.ref 15, .ref 29, .int (k10 17 2)] (pr_S, k10, hl) = some (none, (pr_S, k11, hl)) := by rw [p10, z2, e11]; exact ea_copyRow d rfl rfl b2 (by decide)
  obtain ⟨k12, e12⟩ : ∃ x, x = cpr k11 16 30 nn := ⟨_, rfl⟩
  have p12 : k12 17 = k0 17 := by rw [e12, cpr_ne (by decide), p11]
  have c12 : am_call tb_P (d + 1) 210 [.ref 16, .ref 30, .int (k11 17 2)] (pr_S, k11, hl) = some (none, (pr_S, k12, hl)) := by rw [p11, z2, e12]; exact ea_copyRow d rfl rfl b2 (by decide)
  refine ⟨k12, ?_, fun c q => ?_, by rw [p12]; exact z0, by rw [p12]; exact z1, fun c i q1 q2 q3 => ?_, fun c i q1 q2 q3 => ?_, fun c i q1 q2 q3 => ?_⟩
  · rw [e0] at c1
    rw [en_209_17, ht_209_17_0, ch_209_17_0, c1, ev_rn, ch_209_17_1, c2, ev_rn, ch_209_17_2, c3, ev_rn, ch_209_17_3, c4, ev_rn, ch_209_17_4, c5, ev_rn, ch_209_17_5, c6, ev_rn, ch_209_17_6, c7, ev_rn, ch_209_17_7, c8, ev_rn, ch_209_17_8, c9, ev_rn, ch_209_17_9, c10, ev_rn, ch_209_17_10, c11, ev_rn, ch_209_17_11, c12, ev_rn, ch_209_17_12]
  · rw [e12, cpr_ne (by omega), e11, cpr_ne (by omega), e10, cpr_ne (by omega), e9, cpr_ne (by omega), e8, cpr_ne (by omega), e7, cpr_ne (by omega), e6, cpr_ne (by omega), e5, cpr_ne (by omega), e4, cpr_ne (by omega), e3, cpr_ne (by omega), e2, cpr_ne (by omega), e1, cpr_ne (by omega), z3 c (by omega)]
  · obtain rfl | rfl | rfl | rfl : c = 5 ∨ c = 6 ∨ c = 7 ∨ c = 8 := by omega
    · rw [e12, cpr_ne (by decide), e11, cpr_ne (by decide), e10, cpr_ne (by decide), e9, cpr_ne (by decide), e8, cpr_ne (by decide), e7, cpr_ne (by decide), e6, cpr_ne (by decide), e5, cpr_ne (by decide), e4, cpr_ne (by decide), e3, cpr_ne (by decide), e2, cpr_ne (by decide), e1, cpr_at q3, z3 _ (by decide)]
    · rw [e12, cpr_ne (by decide), e11, cpr_ne (by decide), e10, cpr_ne (by decide), e9, cpr_ne (by decide), e8, cpr_ne (by decide), e7, cpr_ne (by decide), e6, cpr_ne (by decide), e5, cpr_ne (by decide), e4, cpr_ne (by decide), e3, cpr_ne (by decide), e2, cpr_at q3, e1, cpr_ne (by decide), z3 _ (by decide)]
    · rw [e12, cpr_ne (by decide), e11, cpr_ne (by decide), e10, cpr_ne (by decide), e9, cpr_ne (by decide), e8, cpr_ne (by decide), e7, cpr_ne (by decide), e6, cpr_ne (by decide), e5, cpr_ne (by decide), e4, cpr_ne (by decide), e3, cpr_at q3, e2, cpr_ne (by decide), e1, cpr_ne (by decide), z3 _ (by decide)]
    · rw [e12, cpr_ne (by decide), e11, cpr_ne (by decide), e10, cpr_ne (by decide), e9, cpr_ne (by decide), e8, cpr_ne (by decide), e7, cpr_ne (by decide), e6, cpr_ne (by decide), e5, cpr_ne (by decide), e4, cpr_at q3, e3, cpr_ne (by decide), e2, cpr_ne (by decide), e1, cpr_ne (by decide), z3 _ (by decide)]
  · obtain rfl | rfl | rfl : c = 9 ∨ c = 10 ∨ c = 11 := by omega
    · rw [e12, cpr_ne (by decide), e11, cpr_ne (by decide), e10, cpr_ne (by decide), e9, cpr_ne (by decide), e8, cpr_ne (by decide), e7, cpr_ne (by decide), e6, cpr_ne (by decide), e5, cpr_at q3, e4, cpr_ne (by decide), e3, cpr_ne (by decide), e2, cpr_ne (by decide), e1, cpr_ne (by decide), z3 _ (by decide)]
    · rw [e12, cpr_ne (by decide), e11, cpr_ne (by decide), e10, cpr_ne (by decide), e9, cpr_ne (by decide), e8, cpr_ne (by decide), e7, cpr_ne (by decide), e6, cpr_at q3, e5, cpr_ne (by decide), e4, cpr_ne (by decide), e3, cpr_ne (by decide), e2, cpr_ne (by decide), e1, cpr_ne (by decide), z3 _ (by decide)]
    · rw [e12, cpr_ne (by decide), e11, cpr_ne (by decide), e10, cpr_ne (by decide), e9, cpr_ne (by decide), e8, cpr_ne (by decide), e7, cpr_at q3, e6, cpr_ne (by decide), e5, cpr_ne (by decide), e4, cpr_ne (by decide), e3, cpr_ne (by decide), e2, cpr_ne (by decide), e1, cpr_ne (by decide), z3 _ (by decide)]
  · obtain rfl | rfl | rfl | rfl | rfl : c = 12 ∨ c = 13 ∨ c = 14 ∨ c = 15 ∨ c = 16 := by omega
    · rw [e12, cpr_ne (by decide), e11, cpr_ne (by decide), e10, cpr_ne (by decide), e9, cpr_ne (by decide), e8, cpr_at q3, e7, cpr_ne (by decide), e6, cpr_ne (by decide), e5, cpr_ne (by decide), e4, cpr_ne (by decide), e3, cpr_ne (by decide), e2, cpr_ne (by decide), e1, cpr_ne (by decide), z3 _ (by decide)]
    · rw [e12, cpr_ne (by decide), e11, cpr_ne (by decide), e10, cpr_ne (by decide), e9, cpr_at q3, e8, cpr_ne (by decide), e7, cpr_ne (by decide), e6, cpr_ne (by decide), e5, cpr_ne (by decide), e4, cpr_ne (by decide), e3, cpr_ne (by decide), e2, cpr_ne (by decide), e1, cpr_ne (by decide), z3 _ (by decide)]
    · rw [e12, cpr_ne (by decide), e11, cpr_ne (by decide), e10, cpr_at q3, e9, cpr_ne (by decide), e8, cpr_ne (by decide), e7, cpr_ne (by decide), e6, cpr_ne (by decide), e5, cpr_ne (by decide), e4, cpr_ne (by decide), e3, cpr_ne (by decide), e2, cpr_ne (by decide), e1, cpr_ne (by decide), z3 _ (by decide)]
    · rw [e12, cpr_ne (by decide), e11, cpr_at q3, e10, cpr_ne (by decide), e9, cpr_ne (by decide), e8, cpr_ne (by decide), e7, cpr_ne (by decide), e6, cpr_ne (by decide), e5, cpr_ne (by decide), e4, cpr_ne (by decide), e3, cpr_ne (by decide), e2, cpr_ne (by decide), e1, cpr_ne (by decide), z3 _ (by decide)]
    · rw [e12, cpr_at q3, e11, cpr_ne (by decide), e10, cpr_ne (by decide), e9, cpr_ne (by decide), e8, cpr_ne (by decide), e7, cpr_ne (by decide), e6, cpr_ne (by decide), e5, cpr_ne (by decide), e4, cpr_ne (by decide), e3, cpr_ne (by decide), e2, cpr_ne (by decide), e1, cpr_ne (by decide), z3 _ (by decide)]
