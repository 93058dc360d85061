/-! tokens: bytes as numbers, runs of bytes, what a token is -/
def by_c (c : Nat) : Int32 := if c < 128 then nI c else nI c - 256
theorem by_k : ∀ c, c < 256 → by_c c &&& 255 = nI c ∧ (by_c c < 97 ↔ c < 97 ∨ 128 ≤ c) ∧ (122 < by_c c ↔ 122 < c ∧ c < 128) ∧ (by_c c < 48 ↔ c < 48 ∨ 128 ≤ c) ∧ (57 < by_c c ↔ 57 < c ∧ c < 128) := by decide +kernel
theorem by_e : ∀ c, c < 256 → ∀ k ∈ [10, 32, 40, 41, 42, 43, 44, 45, 46, 59, 60, 61, 92], (by_c c = nI k ↔ c = k) := by decide +kernel
theorem by_l {c : Nat} (h : c < 128) : by_c c = nI c := if_pos h
def ch_b (c : Nat) : Bool := c == 32 || c == 10
def ch_l (c : Nat) : Bool := 97 ≤ c && c ≤ 122
def ch_f (c : Nat) : Bool := 48 ≤ c && c ≤ 57
def ch_a (c : Nat) : Bool := ch_l c || ch_f c
def ch_s (c : Nat) : Bool := c == 40 || c == 41 || c == 42 || c == 43 || c == 44 || c == 45 || c == 46 || c == 59 || c == 60 || c == 61 || c == 92
/-- how far the bytes of one sort go -/
def ru (P : Nat → Bool) (B : Nat → Nat) (N : Nat) : Nat → Nat → Nat
  | 0, p => p
  | n + 1, p => if p < N ∧ P (B p) = true then ru P B N n (p + 1) else p
theorem ru_g {P : Nat → Bool} {B : Nat → Nat} {N : Nat} : ∀ {n p : Nat}, p ≤ ru P B N n p ∧ (p ≤ N → ru P B N n p ≤ N) ∧ (∀ i, p ≤ i → i < ru P B N n p → P (B i) = true)
  | 0, p => ⟨Nat.le_refl _, fun h => h, fun i h1 h2 => absurd h1 (by unfold ru at h2; omega)⟩
  | n + 1, p => by
    unfold ru
    split
    · next h =>
      obtain ⟨a, b, c⟩ := ru_g (P := P) (B := B) (N := N) (n := n) (p := p + 1)
      refine ⟨by omega, fun _ => b (by omega), fun i h1 h2 => ?_⟩
      by_cases e : i = p
      · rw [e]; exact h.2
      · exact c i (by omega) h2
    · exact ⟨Nat.le_refl _, fun h => h, fun i h1 h2 => absurd h1 (by omega)⟩
theorem ru_s {P : Nat → Bool} {B : Nat → Nat} {N : Nat} : ∀ {n p : Nat}, N ≤ p + n → ¬ (ru P B N n p < N ∧ P (B (ru P B N n p)) = true)
  | 0, p, h => by unfold ru; omega
  | n + 1, p, h => by
    unfold ru
    split
    · exact ru_s (by omega)
    · next h2 => exact h2
/-- more turns than bytes do nothing more -/
theorem ru_n {P : Nat → Bool} {B : Nat → Nat} {N : Nat} : ∀ {n m p : Nat}, N ≤ p + n → N ≤ p + m → ru P B N n p = ru P B N m p
  | 0, 0, p, _, _ => rfl
  | 0, m + 1, p, h, _ => by unfold ru; rw [if_neg (by omega)]
  | n + 1, 0, p, _, h => by unfold ru; rw [if_neg (by omega)]
  | n + 1, m + 1, p, h1, h2 => by
    unfold ru
    rw [ru_n (n := n) (m := m) (p := p + 1) (by omega) (by omega)]
def sk (B : Nat → Nat) (N p : Nat) : Nat := ru ch_b B N 2000 p
def la (B : Nat → Nat) (N s : Nat) : Nat := ru ch_a B N 2000 s
def lf (B : Nat → Nat) (N s : Nat) : Nat := ru ch_f B N 2000 s
def nm (B : Nat → Nat) (p : Nat) : Nat → Int64
  | 0 => 0
  | k + 1 => (nm B p k <<< ((8 : Int32).toInt64 &&& 63)) ||| (nI (B (p + k))).toInt64
def nv (B : Nat → Nat) (p : Nat) : Nat → Int32
  | 0 => 0
  | k + 1 => nv B p k * 10 + nI (B (p + k)) - 48
def wd (v : Int64) : Nat := if v = Int64.ofNat 7103860 then 4 else if v = Int64.ofNat 26990 then 5 else if v = Int64.ofNat 26982 then 6 else if v = Int64.ofNat 1952998766 then 7 else if v = Int64.ofNat 1701606245 then 8 else if v = Int64.ofNat 495807392116 then 9 else if v = Int64.ofNat 24947 then 10 else 2
/-- 0 the end, 1 odd, 2 NAME, 3 NUMBER, 4 to 10 WORDS, else the SIGN's byte -/
def tok (B : Nat → Nat) (N s : Nat) : Nat := if N ≤ s then 0 else if ch_l (B s) = true then (if 8 < la B N s - s then 1 else wd (nm B s (la B N s - s))) else if ch_f (B s) = true then (if 9 < lf B N s - s then 1 else 3) else if ch_s (B s) = true then B s else 1
def te (B : Nat → Nat) (N s : Nat) : Nat := if N ≤ s then s else if ch_l (B s) = true then la B N s else if ch_f (B s) = true then lf B N s else s + 1
def cl (t : Nat) : Int32 := if t < 40 then nI (256 + t) else nI t
def tp (B : Nat → Nat) (N : Nat) : Nat → Nat
  | 0 => sk B N 0
  | k + 1 => sk B N (te B N (tp B N k))
theorem lg_ne {a b : Int64} : lg_cmp a b ≠ 0 ↔ a ≠ b := by
  unfold lg_cmp
  constructor
  · intro h e
    subst e
    exact h (by simp [Int64.lt_irrefl])
  · intro h e
    by_cases c : a > b
    · rw [if_pos c] at e; exact absurd e (by decide)
    · rw [if_neg c, if_neg h] at e; exact absurd e (by decide)
section TK
variable {hi : Nat → Nat → Int32} {hl : Nat → Nat → Int64}
theorem ea_word (d : Nat) : am_call tb_P (d + 1) 229 [.ref 1] (pr_S, hi, hl) = some (some (.int (nI (256 + wd (hl 1 3)))), (pr_S, hi, hl)) := by
  unfold wd
  by_cases c0 : hl 1 3 = Int64.ofNat 7103860
  · rw [if_pos c0, en_229, ht_229_0, ch_229_0, if_neg (fun q => (lg_ne.mp q) c0)]; rfl
  rw [if_neg c0]
  by_cases c1 : hl 1 3 = Int64.ofNat 26990
  · rw [if_pos c1, en_229, ht_229_0, ch_229_0, if_pos (lg_ne.mpr c0), ht_229_1, ch_229_1, if_neg (fun q => (lg_ne.mp q) c1)]; rfl
  rw [if_neg c1]
  by_cases c2 : hl 1 3 = Int64.ofNat 26982
  · rw [if_pos c2, en_229, ht_229_0, ch_229_0, if_pos (lg_ne.mpr c0), ht_229_1, ch_229_1, if_pos (lg_ne.mpr c1), ht_229_2, ch_229_2, if_neg (fun q => (lg_ne.mp q) c2)]; rfl
  rw [if_neg c2]
  by_cases c3 : hl 1 3 = Int64.ofNat 1952998766
  · rw [if_pos c3, en_229, ht_229_0, ch_229_0, if_pos (lg_ne.mpr c0), ht_229_1, ch_229_1, if_pos (lg_ne.mpr c1), ht_229_2, ch_229_2, if_pos (lg_ne.mpr c2), ht_229_3, ch_229_3, if_neg (fun q => (lg_ne.mp q) c3)]; rfl
  rw [if_neg c3]
  by_cases c4 : hl 1 3 = Int64.ofNat 1701606245
  · rw [if_pos c4, en_229, ht_229_0, ch_229_0, if_pos (lg_ne.mpr c0), ht_229_1, ch_229_1, if_pos (lg_ne.mpr c1), ht_229_2, ch_229_2, if_pos (lg_ne.mpr c2), ht_229_3, ch_229_3, if_pos (lg_ne.mpr c3), ht_229_4, ch_229_4, if_neg (fun q => (lg_ne.mp q) c4)]; rfl
  rw [if_neg c4]
  by_cases c5 : hl 1 3 = Int64.ofNat 495807392116
  · rw [if_pos c5, en_229, ht_229_0, ch_229_0, if_pos (lg_ne.mpr c0), ht_229_1, ch_229_1, if_pos (lg_ne.mpr c1), ht_229_2, ch_229_2, if_pos (lg_ne.mpr c2), ht_229_3, ch_229_3, if_pos (lg_ne.mpr c3), ht_229_4, ch_229_4, if_pos (lg_ne.mpr c4), ht_229_5, ch_229_5, if_neg (fun q => (lg_ne.mp q) c5)]; rfl
  rw [if_neg c5]
  by_cases c6 : hl 1 3 = Int64.ofNat 24947
  · rw [if_pos c6, en_229, ht_229_0, ch_229_0, if_pos (lg_ne.mpr c0), ht_229_1, ch_229_1, if_pos (lg_ne.mpr c1), ht_229_2, ch_229_2, if_pos (lg_ne.mpr c2), ht_229_3, ch_229_3, if_pos (lg_ne.mpr c3), ht_229_4, ch_229_4, if_pos (lg_ne.mpr c4), ht_229_5, ch_229_5, if_pos (lg_ne.mpr c5), ht_229_6, ch_229_6, if_neg (fun q => (lg_ne.mp q) c6), sk_229_7_110, ht_229_8, ch_229_8]; rfl
  rw [if_neg c6]
  rw [en_229, ht_229_0, ch_229_0, if_pos (lg_ne.mpr c0), ht_229_1, ch_229_1, if_pos (lg_ne.mpr c1), ht_229_2, ch_229_2, if_pos (lg_ne.mpr c2), ht_229_3, ch_229_3, if_pos (lg_ne.mpr c3), ht_229_4, ch_229_4, if_pos (lg_ne.mpr c4), ht_229_5, ch_229_5, if_pos (lg_ne.mpr c5), ht_229_6, ch_229_6, if_pos (lg_ne.mpr c6), ht_229_7, ch_229_7, ht_229_8, ch_229_8]; rfl
theorem em_word (d : Nat) (v : Int64) : am_call tb_P (d + 1) 24 [.long v] (pr_S, hi, hl) = some (some (.int (nI (wd v))), (pr_S, hi, hl)) := by
  unfold wd
  by_cases c0 : v = Int64.ofNat 7103860
  · rw [if_pos c0, en_24, ht_24_0, ch_24_0, if_neg (fun q => (lg_ne.mp q) c0), sk_24_1_90, ht_24_8, ch_24_2]; rfl
  rw [if_neg c0]
  by_cases c1 : v = Int64.ofNat 26990
  · rw [if_pos c1, en_24, ht_24_0, ch_24_0, if_pos (lg_ne.mpr c0), ht_24_1, ch_24_1, if_neg (fun q => (lg_ne.mp q) c1), sk_24_2_90, ht_24_8, ch_24_2]; rfl
  rw [if_neg c1]
  by_cases c2 : v = Int64.ofNat 26982
  · rw [if_pos c2, en_24, ht_24_0, ch_24_0, if_pos (lg_ne.mpr c0), ht_24_1, ch_24_1, if_pos (lg_ne.mpr c1), ht_24_2, ch_24_3, if_neg (fun q => (lg_ne.mp q) c2), sk_24_3_90, ht_24_8, ch_24_2]; rfl
  rw [if_neg c2]
  by_cases c3 : v = Int64.ofNat 1952998766
  · rw [if_pos c3, en_24, ht_24_0, ch_24_0, if_pos (lg_ne.mpr c0), ht_24_1, ch_24_1, if_pos (lg_ne.mpr c1), ht_24_2, ch_24_3, if_pos (lg_ne.mpr c2), ht_24_3, ch_24_4, if_neg (fun q => (lg_ne.mp q) c3), sk_24_4_90, ht_24_8, ch_24_2]; rfl
  rw [if_neg c3]
  by_cases c4 : v = Int64.ofNat 1701606245
  · rw [if_pos c4, en_24, ht_24_0, ch_24_0, if_pos (lg_ne.mpr c0), ht_24_1, ch_24_1, if_pos (lg_ne.mpr c1), ht_24_2, ch_24_3, if_pos (lg_ne.mpr c2), ht_24_3, ch_24_4, if_pos (lg_ne.mpr c3), ht_24_4, ch_24_5, if_neg (fun q => (lg_ne.mp q) c4), sk_24_5_90, ht_24_8, ch_24_2]; rfl
  rw [if_neg c4]
  by_cases c5 : v = Int64.ofNat 495807392116
  · rw [if_pos c5, en_24, ht_24_0, ch_24_0, if_pos (lg_ne.mpr c0), ht_24_1, ch_24_1, if_pos (lg_ne.mpr c1), ht_24_2, ch_24_3, if_pos (lg_ne.mpr c2), ht_24_3, ch_24_4, if_pos (lg_ne.mpr c3), ht_24_4, ch_24_5, if_pos (lg_ne.mpr c4), ht_24_5, ch_24_6, if_neg (fun q => (lg_ne.mp q) c5), sk_24_6_90, ht_24_8, ch_24_2]; rfl
  rw [if_neg c5]
  by_cases c6 : v = Int64.ofNat 24947
  · rw [if_pos c6, en_24, ht_24_0, ch_24_0, if_pos (lg_ne.mpr c0), ht_24_1, ch_24_1, if_pos (lg_ne.mpr c1), ht_24_2, ch_24_3, if_pos (lg_ne.mpr c2), ht_24_3, ch_24_4, if_pos (lg_ne.mpr c3), ht_24_4, ch_24_5, if_pos (lg_ne.mpr c4), ht_24_5, ch_24_6, if_pos (lg_ne.mpr c5), ht_24_6, ch_24_7, if_neg (fun q => (lg_ne.mp q) c6), sk_24_7_90, ht_24_8, ch_24_2]; rfl
  rw [if_neg c6]
  rw [en_24, ht_24_0, ch_24_0, if_pos (lg_ne.mpr c0), ht_24_1, ch_24_1, if_pos (lg_ne.mpr c1), ht_24_2, ch_24_3, if_pos (lg_ne.mpr c2), ht_24_3, ch_24_4, if_pos (lg_ne.mpr c3), ht_24_4, ch_24_5, if_pos (lg_ne.mpr c4), ht_24_5, ch_24_6, if_pos (lg_ne.mpr c5), ht_24_6, ch_24_7, if_pos (lg_ne.mpr c6), ht_24_7, ch_24_8, ht_24_8, ch_24_2]; rfl
/-- the text of both: N bytes -/
def tx_C (h : Nat → Nat → Int32) (B : Nat → Nat) (N : Nat) : Prop := h 1 0 = nI N ∧ N ≤ 2000 ∧ ∀ p, p < N → B p < 256 ∧ h 2 p = by_c (B p)
def tx_M (h : Nat → Nat → Int32) (B : Nat → Nat) (N : Nat) : Prop := h 73 1 = nI N ∧ N ≤ 2000 ∧ ∀ p, p < N → B p < 256 ∧ h 74 p = by_c (B p)
variable {B : Nat → Nat} {N p c : Nat}
theorem ea_byteAt (d : Nat) (T : tx_C hi B N) (h : p < N) : am_call tb_P (d + 1) 230 [.ref 1, .int (nI p)] (pr_S, hi, hl) = some (some (.int (nI (B p))), (pr_S, hi, hl)) := by
  obtain ⟨t1, t2, t3⟩ := T
  obtain ⟨b1, b2⟩ := t3 p h
  have e := (by_k (B p) b1).1
  have g : ¬ Int32.ofNat 2000 ≤ nI p := nI_ge (a := p) (b := 2000) (by omega) (by decide)
  rw [en_230, ht_230_0, ch_230_0]; (try simp +decide (disch := omega) only [ni_bF, nI_clamp, nI_add, pk_mul, dc_ltT, dc_ltF, dc_leT, dc_leF, dc_eqF, dc_neT, dn_eq, dn_ne, dn_lt, dn_ge, si_at, si_c, si_k, q_at_nI, q_put_nI, ne_eq, not_false_eq_true, not_true_eq_false, ↓reduceIte, v0_ltT, v0_ltF, v0_gtT, v0_gtF, v0_leT, v0_leF, v0_geT, v0_geF, v0_eqT, v0_eqF, v0_add, v0_dda, v0_mul, v0_lum, v0_sub, v0_bad, v0_cl, b2, e]); rw [if_neg g, sk_230_1_27, ht_230_2, ch_230_2]
theorem ea_isBlank (d : Nat) (h : c < 256) : am_call tb_P (d + 1) 231 [.int (nI c)] (pr_S, hi, hl) = some (some (.int (if ch_b c = true then 1 else 0)), (pr_S, hi, hl)) := by
  by_cases c1 : c = 32
  · subst c1; rw [en_231, ht_231_0, ch_231_0]; (try simp +decide (disch := omega) only [ni_bF, nI_clamp, nI_add, pk_mul, dc_ltT, dc_ltF, dc_leT, dc_leF, dc_eqF, dc_neT, dn_eq, dn_ne, dn_lt, dn_ge, si_at, si_c, si_k, q_at_nI, q_put_nI, ne_eq, not_false_eq_true, not_true_eq_false, ↓reduceIte, v0_ltT, v0_ltF, v0_gtT, v0_gtF, v0_leT, v0_leF, v0_geT, v0_geF, v0_eqT, v0_eqF, v0_add, v0_dda, v0_mul, v0_lum, v0_sub, v0_bad, v0_cl, v10_ltT, v10_ltF, v10_gtT, v10_gtF, v10_leT, v10_leF, v10_geT, v10_geF, v10_eqT, v10_eqF, v10_add, v10_dda, v10_mul, v10_lum, v10_sub, v10_bad, v10_cl, v32_ltT, v32_ltF, v32_gtT, v32_gtF, v32_leT, v32_leF, v32_geT, v32_geF, v32_eqT, v32_eqF, v32_add, v32_dda, v32_mul, v32_lum, v32_sub, v32_bad, v32_cl]); rw [ht_231_1, ch_231_1, sk_231_2_17, ht_231_3, ch_231_3]; try simp +decide (disch := omega) only [ni_bF, nI_clamp, nI_add, pk_mul, dc_ltT, dc_ltF, dc_leT, dc_leF, dc_eqF, dc_neT, dn_eq, dn_ne, dn_lt, dn_ge, si_at, si_c, si_k, q_at_nI, q_put_nI, ne_eq, not_false_eq_true, not_true_eq_false, ↓reduceIte, v0_ltT, v0_ltF, v0_gtT, v0_gtF, v0_leT, v0_leF, v0_geT, v0_geF, v0_eqT, v0_eqF, v0_add, v0_dda, v0_mul, v0_lum, v0_sub, v0_bad, v0_cl, v1_ltT, v1_ltF, v1_gtT, v1_gtF, v1_leT, v1_leF, v1_geT, v1_geF, v1_eqT, v1_eqF, v1_add, v1_dda, v1_mul, v1_lum, v1_sub, v1_bad, v1_cl]
  · by_cases c2 : c = 10
    · subst c2; rw [en_231, ht_231_0, ch_231_0]; (try simp +decide (disch := omega) only [ni_bF, nI_clamp, nI_add, pk_mul, dc_ltT, dc_ltF, dc_leT, dc_leF, dc_eqF, dc_neT, dn_eq, dn_ne, dn_lt, dn_ge, si_at, si_c, si_k, q_at_nI, q_put_nI, ne_eq, not_false_eq_true, not_true_eq_false, ↓reduceIte, v0_ltT, v0_ltF, v0_gtT, v0_gtF, v0_leT, v0_leF, v0_geT, v0_geF, v0_eqT, v0_eqF, v0_add, v0_dda, v0_mul, v0_lum, v0_sub, v0_bad, v0_cl, v10_ltT, v10_ltF, v10_gtT, v10_gtF, v10_leT, v10_leF, v10_geT, v10_geF, v10_eqT, v10_eqF, v10_add, v10_dda, v10_mul, v10_lum, v10_sub, v10_bad, v10_cl, v32_ltT, v32_ltF, v32_gtT, v32_gtF, v32_leT, v32_leF, v32_geT, v32_geF, v32_eqT, v32_eqF, v32_add, v32_dda, v32_mul, v32_lum, v32_sub, v32_bad, v32_cl]); rw [ht_231_1, ch_231_1, sk_231_2_17, ht_231_3, ch_231_3]; try simp +decide (disch := omega) only [ni_bF, nI_clamp, nI_add, pk_mul, dc_ltT, dc_ltF, dc_leT, dc_leF, dc_eqF, dc_neT, dn_eq, dn_ne, dn_lt, dn_ge, si_at, si_c, si_k, q_at_nI, q_put_nI, ne_eq, not_false_eq_true, not_true_eq_false, ↓reduceIte, v0_ltT, v0_ltF, v0_gtT, v0_gtF, v0_leT, v0_leF, v0_geT, v0_geF, v0_eqT, v0_eqF, v0_add, v0_dda, v0_mul, v0_lum, v0_sub, v0_bad, v0_cl, v1_ltT, v1_ltF, v1_gtT, v1_gtF, v1_leT, v1_leF, v1_geT, v1_geF, v1_eqT, v1_eqF, v1_add, v1_dda, v1_mul, v1_lum, v1_sub, v1_bad, v1_cl]
    · rw [show ch_b c = false by simp [ch_b, c1, c2]]
      rw [en_231, ht_231_0, ch_231_0]; (try simp +decide (disch := omega) only [ni_bF, nI_clamp, nI_add, pk_mul, dc_ltT, dc_ltF, dc_leT, dc_leF, dc_eqF, dc_neT, dn_eq, dn_ne, dn_lt, dn_ge, si_at, si_c, si_k, q_at_nI, q_put_nI, ne_eq, not_false_eq_true, not_true_eq_false, ↓reduceIte, v0_ltT, v0_ltF, v0_gtT, v0_gtF, v0_leT, v0_leF, v0_geT, v0_geF, v0_eqT, v0_eqF, v0_add, v0_dda, v0_mul, v0_lum, v0_sub, v0_bad, v0_cl, v10_ltT, v10_ltF, v10_gtT, v10_gtF, v10_leT, v10_leF, v10_geT, v10_geF, v10_eqT, v10_eqF, v10_add, v10_dda, v10_mul, v10_lum, v10_sub, v10_bad, v10_cl, v32_ltT, v32_ltF, v32_gtT, v32_gtF, v32_leT, v32_leF, v32_geT, v32_geF, v32_eqT, v32_eqF, v32_add, v32_dda, v32_mul, v32_lum, v32_sub, v32_bad, v32_cl]); rw [sk_231_1_16, ht_231_2, ch_231_2, ht_231_3, ch_231_3]; try simp +decide (disch := omega) only [ni_bF, nI_clamp, nI_add, pk_mul, dc_ltT, dc_ltF, dc_leT, dc_leF, dc_eqF, dc_neT, dn_eq, dn_ne, dn_lt, dn_ge, si_at, si_c, si_k, q_at_nI, q_put_nI, ne_eq, not_false_eq_true, not_true_eq_false, ↓reduceIte, v0_ltT, v0_ltF, v0_gtT, v0_gtF, v0_leT, v0_leF, v0_geT, v0_geF, v0_eqT, v0_eqF, v0_add, v0_dda, v0_mul, v0_lum, v0_sub, v0_bad, v0_cl, v1_ltT, v1_ltF, v1_gtT, v1_gtF, v1_leT, v1_leF, v1_geT, v1_geF, v1_eqT, v1_eqF, v1_add, v1_dda, v1_mul, v1_lum, v1_sub, v1_bad, v1_cl]
theorem ea_isLetter (d : Nat) (h : c < 256) : am_call tb_P (d + 1) 232 [.int (nI c)] (pr_S, hi, hl) = some (some (.int (if ch_l c = true then 1 else 0)), (pr_S, hi, hl)) := by
  by_cases c1 : c < 97
  · rw [show ch_l c = false by simp [ch_l]; omega]
    rw [en_232, ht_232_0, ch_232_0]; (try simp +decide (disch := omega) only [ni_bF, nI_clamp, nI_add, pk_mul, dc_ltT, dc_ltF, dc_leT, dc_leF, dc_eqF, dc_neT, dn_eq, dn_ne, dn_lt, dn_ge, si_at, si_c, si_k, q_at_nI, q_put_nI, ne_eq, not_false_eq_true, not_true_eq_false, ↓reduceIte, v0_ltT, v0_ltF, v0_gtT, v0_gtF, v0_leT, v0_leF, v0_geT, v0_geF, v0_eqT, v0_eqF, v0_add, v0_dda, v0_mul, v0_lum, v0_sub, v0_bad, v0_cl, v97_ltT, v97_ltF, v97_gtT, v97_gtF, v97_leT, v97_leF, v97_geT, v97_geF, v97_eqT, v97_eqF, v97_add, v97_dda, v97_mul, v97_lum, v97_sub, v97_bad, v97_cl, v122_ltT, v122_ltF, v122_gtT, v122_gtF, v122_leT, v122_leF, v122_geT, v122_geF, v122_eqT, v122_eqF, v122_add, v122_dda, v122_mul, v122_lum, v122_sub, v122_bad, v122_cl]); rw [ht_232_1, ch_232_1, ht_232_2, ch_232_2]; try simp +decide (disch := omega) only [ni_bF, nI_clamp, nI_add, pk_mul, dc_ltT, dc_ltF, dc_leT, dc_leF, dc_eqF, dc_neT, dn_eq, dn_ne, dn_lt, dn_ge, si_at, si_c, si_k, q_at_nI, q_put_nI, ne_eq, not_false_eq_true, not_true_eq_false, ↓reduceIte, v0_ltT, v0_ltF, v0_gtT, v0_gtF, v0_leT, v0_leF, v0_geT, v0_geF, v0_eqT, v0_eqF, v0_add, v0_dda, v0_mul, v0_lum, v0_sub, v0_bad, v0_cl, v1_ltT, v1_ltF, v1_gtT, v1_gtF, v1_leT, v1_leF, v1_geT, v1_geF, v1_eqT, v1_eqF, v1_add, v1_dda, v1_mul, v1_lum, v1_sub, v1_bad, v1_cl]
  · by_cases c2 : 122 < c
    · rw [show ch_l c = false by simp [ch_l]; omega]
      rw [en_232, ht_232_0, ch_232_0]; (try simp +decide (disch := omega) only [ni_bF, nI_clamp, nI_add, pk_mul, dc_ltT, dc_ltF, dc_leT, dc_leF, dc_eqF, dc_neT, dn_eq, dn_ne, dn_lt, dn_ge, si_at, si_c, si_k, q_at_nI, q_put_nI, ne_eq, not_false_eq_true, not_true_eq_false, ↓reduceIte, v0_ltT, v0_ltF, v0_gtT, v0_gtF, v0_leT, v0_leF, v0_geT, v0_geF, v0_eqT, v0_eqF, v0_add, v0_dda, v0_mul, v0_lum, v0_sub, v0_bad, v0_cl, v97_ltT, v97_ltF, v97_gtT, v97_gtF, v97_leT, v97_leF, v97_geT, v97_geF, v97_eqT, v97_eqF, v97_add, v97_dda, v97_mul, v97_lum, v97_sub, v97_bad, v97_cl, v122_ltT, v122_ltF, v122_gtT, v122_gtF, v122_leT, v122_leF, v122_geT, v122_geF, v122_eqT, v122_eqF, v122_add, v122_dda, v122_mul, v122_lum, v122_sub, v122_bad, v122_cl]); rw [ht_232_1, ch_232_1, ht_232_2, ch_232_2]; try simp +decide (disch := omega) only [ni_bF, nI_clamp, nI_add, pk_mul, dc_ltT, dc_ltF, dc_leT, dc_leF, dc_eqF, dc_neT, dn_eq, dn_ne, dn_lt, dn_ge, si_at, si_c, si_k, q_at_nI, q_put_nI, ne_eq, not_false_eq_true, not_true_eq_false, ↓reduceIte, v0_ltT, v0_ltF, v0_gtT, v0_gtF, v0_leT, v0_leF, v0_geT, v0_geF, v0_eqT, v0_eqF, v0_add, v0_dda, v0_mul, v0_lum, v0_sub, v0_bad, v0_cl, v1_ltT, v1_ltF, v1_gtT, v1_gtF, v1_leT, v1_leF, v1_geT, v1_geF, v1_eqT, v1_eqF, v1_add, v1_dda, v1_mul, v1_lum, v1_sub, v1_bad, v1_cl]
    · rw [show ch_l c = true by simp [ch_l]; omega]
      rw [en_232, ht_232_0, ch_232_0]; (try simp +decide (disch := omega) only [ni_bF, nI_clamp, nI_add, pk_mul, dc_ltT, dc_ltF, dc_leT, dc_leF, dc_eqF, dc_neT, dn_eq, dn_ne, dn_lt, dn_ge, si_at, si_c, si_k, q_at_nI, q_put_nI, ne_eq, not_false_eq_true, not_true_eq_false, ↓reduceIte, v0_ltT, v0_ltF, v0_gtT, v0_gtF, v0_leT, v0_leF, v0_geT, v0_geF, v0_eqT, v0_eqF, v0_add, v0_dda, v0_mul, v0_lum, v0_sub, v0_bad, v0_cl, v97_ltT, v97_ltF, v97_gtT, v97_gtF, v97_leT, v97_leF, v97_geT, v97_geF, v97_eqT, v97_eqF, v97_add, v97_dda, v97_mul, v97_lum, v97_sub, v97_bad, v97_cl, v122_ltT, v122_ltF, v122_gtT, v122_gtF, v122_leT, v122_leF, v122_geT, v122_geF, v122_eqT, v122_eqF, v122_add, v122_dda, v122_mul, v122_lum, v122_sub, v122_bad, v122_cl]); rw [sk_232_1_17, ht_232_2, ch_232_2]; try simp +decide (disch := omega) only [ni_bF, nI_clamp, nI_add, pk_mul, dc_ltT, dc_ltF, dc_leT, dc_leF, dc_eqF, dc_neT, dn_eq, dn_ne, dn_lt, dn_ge, si_at, si_c, si_k, q_at_nI, q_put_nI, ne_eq, not_false_eq_true, not_true_eq_false, ↓reduceIte, v0_ltT, v0_ltF, v0_gtT, v0_gtF, v0_leT, v0_leF, v0_geT, v0_geF, v0_eqT, v0_eqF, v0_add, v0_dda, v0_mul, v0_lum, v0_sub, v0_bad, v0_cl, v1_ltT, v1_ltF, v1_gtT, v1_gtF, v1_leT, v1_leF, v1_geT, v1_geF, v1_eqT, v1_eqF, v1_add, v1_dda, v1_mul, v1_lum, v1_sub, v1_bad, v1_cl]
theorem ea_isFigure (d : Nat) (h : c < 256) : am_call tb_P (d + 1) 233 [.int (nI c)] (pr_S, hi, hl) = some (some (.int (if ch_f c = true then 1 else 0)), (pr_S, hi, hl)) := by
  by_cases c1 : c < 48
  · rw [show ch_f c = false by simp [ch_f]; omega]
    rw [en_233, ht_233_0, ch_233_0]; (try simp +decide (disch := omega) only [ni_bF, nI_clamp, nI_add, pk_mul, dc_ltT, dc_ltF, dc_leT, dc_leF, dc_eqF, dc_neT, dn_eq, dn_ne, dn_lt, dn_ge, si_at, si_c, si_k, q_at_nI, q_put_nI, ne_eq, not_false_eq_true, not_true_eq_false, ↓reduceIte, v0_ltT, v0_ltF, v0_gtT, v0_gtF, v0_leT, v0_leF, v0_geT, v0_geF, v0_eqT, v0_eqF, v0_add, v0_dda, v0_mul, v0_lum, v0_sub, v0_bad, v0_cl, v48_ltT, v48_ltF, v48_gtT, v48_gtF, v48_leT, v48_leF, v48_geT, v48_geF, v48_eqT, v48_eqF, v48_add, v48_dda, v48_mul, v48_lum, v48_sub, v48_bad, v48_cl, v57_ltT, v57_ltF, v57_gtT, v57_gtF, v57_leT, v57_leF, v57_geT, v57_geF, v57_eqT, v57_eqF, v57_add, v57_dda, v57_mul, v57_lum, v57_sub, v57_bad, v57_cl]); rw [ht_233_1, ch_233_1, ht_233_2, ch_233_2]; try simp +decide (disch := omega) only [ni_bF, nI_clamp, nI_add, pk_mul, dc_ltT, dc_ltF, dc_leT, dc_leF, dc_eqF, dc_neT, dn_eq, dn_ne, dn_lt, dn_ge, si_at, si_c, si_k, q_at_nI, q_put_nI, ne_eq, not_false_eq_true, not_true_eq_false, ↓reduceIte, v0_ltT, v0_ltF, v0_gtT, v0_gtF, v0_leT, v0_leF, v0_geT, v0_geF, v0_eqT, v0_eqF, v0_add, v0_dda, v0_mul, v0_lum, v0_sub, v0_bad, v0_cl, v1_ltT, v1_ltF, v1_gtT, v1_gtF, v1_leT, v1_leF, v1_geT, v1_geF, v1_eqT, v1_eqF, v1_add, v1_dda, v1_mul, v1_lum, v1_sub, v1_bad, v1_cl]
  · by_cases c2 : 57 < c
    · rw [show ch_f c = false by simp [ch_f]; omega]
      rw [en_233, ht_233_0, ch_233_0]; (try simp +decide (disch := omega) only [ni_bF, nI_clamp, nI_add, pk_mul, dc_ltT, dc_ltF, dc_leT, dc_leF, dc_eqF, dc_neT, dn_eq, dn_ne, dn_lt, dn_ge, si_at, si_c, si_k, q_at_nI, q_put_nI, ne_eq, not_false_eq_true, not_true_eq_false, ↓reduceIte, v0_ltT, v0_ltF, v0_gtT, v0_gtF, v0_leT, v0_leF, v0_geT, v0_geF, v0_eqT, v0_eqF, v0_add, v0_dda, v0_mul, v0_lum, v0_sub, v0_bad, v0_cl, v48_ltT, v48_ltF, v48_gtT, v48_gtF, v48_leT, v48_leF, v48_geT, v48_geF, v48_eqT, v48_eqF, v48_add, v48_dda, v48_mul, v48_lum, v48_sub, v48_bad, v48_cl, v57_ltT, v57_ltF, v57_gtT, v57_gtF, v57_leT, v57_leF, v57_geT, v57_geF, v57_eqT, v57_eqF, v57_add, v57_dda, v57_mul, v57_lum, v57_sub, v57_bad, v57_cl]); rw [ht_233_1, ch_233_1, ht_233_2, ch_233_2]; try simp +decide (disch := omega) only [ni_bF, nI_clamp, nI_add, pk_mul, dc_ltT, dc_ltF, dc_leT, dc_leF, dc_eqF, dc_neT, dn_eq, dn_ne, dn_lt, dn_ge, si_at, si_c, si_k, q_at_nI, q_put_nI, ne_eq, not_false_eq_true, not_true_eq_false, ↓reduceIte, v0_ltT, v0_ltF, v0_gtT, v0_gtF, v0_leT, v0_leF, v0_geT, v0_geF, v0_eqT, v0_eqF, v0_add, v0_dda, v0_mul, v0_lum, v0_sub, v0_bad, v0_cl, v1_ltT, v1_ltF, v1_gtT, v1_gtF, v1_leT, v1_leF, v1_geT, v1_geF, v1_eqT, v1_eqF, v1_add, v1_dda, v1_mul, v1_lum, v1_sub, v1_bad, v1_cl]
    · rw [show ch_f c = true by simp [ch_f]; omega]
      rw [en_233, ht_233_0, ch_233_0]; (try simp +decide (disch := omega) only [ni_bF, nI_clamp, nI_add, pk_mul, dc_ltT, dc_ltF, dc_leT, dc_leF, dc_eqF, dc_neT, dn_eq, dn_ne, dn_lt, dn_ge, si_at, si_c, si_k, q_at_nI, q_put_nI, ne_eq, not_false_eq_true, not_true_eq_false, ↓reduceIte, v0_ltT, v0_ltF, v0_gtT, v0_gtF, v0_leT, v0_leF, v0_geT, v0_geF, v0_eqT, v0_eqF, v0_add, v0_dda, v0_mul, v0_lum, v0_sub, v0_bad, v0_cl, v48_ltT, v48_ltF, v48_gtT, v48_gtF, v48_leT, v48_leF, v48_geT, v48_geF, v48_eqT, v48_eqF, v48_add, v48_dda, v48_mul, v48_lum, v48_sub, v48_bad, v48_cl, v57_ltT, v57_ltF, v57_gtT, v57_gtF, v57_leT, v57_leF, v57_geT, v57_geF, v57_eqT, v57_eqF, v57_add, v57_dda, v57_mul, v57_lum, v57_sub, v57_bad, v57_cl]); rw [sk_233_1_17, ht_233_2, ch_233_2]; try simp +decide (disch := omega) only [ni_bF, nI_clamp, nI_add, pk_mul, dc_ltT, dc_ltF, dc_leT, dc_leF, dc_eqF, dc_neT, dn_eq, dn_ne, dn_lt, dn_ge, si_at, si_c, si_k, q_at_nI, q_put_nI, ne_eq, not_false_eq_true, not_true_eq_false, ↓reduceIte, v0_ltT, v0_ltF, v0_gtT, v0_gtF, v0_leT, v0_leF, v0_geT, v0_geF, v0_eqT, v0_eqF, v0_add, v0_dda, v0_mul, v0_lum, v0_sub, v0_bad, v0_cl, v1_ltT, v1_ltF, v1_gtT, v1_gtF, v1_leT, v1_leF, v1_geT, v1_geF, v1_eqT, v1_eqF, v1_add, v1_dda, v1_mul, v1_lum, v1_sub, v1_bad, v1_cl]
theorem ea_isSign (d : Nat) (h : c < 256) : am_call tb_P (d + 1) 234 [.int (nI c)] (pr_S, hi, hl) = some (some (.int (if ch_s c = true then 1 else 0)), (pr_S, hi, hl)) := by
  by_cases c0 : c = 40
  · subst c0; rw [en_234, ht_234_0, ch_234_0]; (try simp +decide (disch := omega) only [ni_bF, nI_clamp, nI_add, pk_mul, dc_ltT, dc_ltF, dc_leT, dc_leF, dc_eqF, dc_neT, dn_eq, dn_ne, dn_lt, dn_ge, si_at, si_c, si_k, q_at_nI, q_put_nI, ne_eq, not_false_eq_true, not_true_eq_false, ↓reduceIte, v0_ltT, v0_ltF, v0_gtT, v0_gtF, v0_leT, v0_leF, v0_geT, v0_geF, v0_eqT, v0_eqF, v0_add, v0_dda, v0_mul, v0_lum, v0_sub, v0_bad, v0_cl, v40_eqT, v40_eqF, v41_eqT, v41_eqF, v42_eqT, v42_eqF, v43_eqT, v43_eqF, v44_eqT, v44_eqF, v45_eqT, v45_eqF, v46_eqT, v46_eqF, v59_eqT, v59_eqF, v60_eqT, v60_eqF, v61_eqT, v61_eqF, v92_eqT, v92_eqF]); rw [ht_234_1, ch_234_1]
  by_cases c1 : c = 41
  · subst c1; rw [en_234, ht_234_0, ch_234_0]; (try simp +decide (disch := omega) only [ni_bF, nI_clamp, nI_add, pk_mul, dc_ltT, dc_ltF, dc_leT, dc_leF, dc_eqF, dc_neT, dn_eq, dn_ne, dn_lt, dn_ge, si_at, si_c, si_k, q_at_nI, q_put_nI, ne_eq, not_false_eq_true, not_true_eq_false, ↓reduceIte, v0_ltT, v0_ltF, v0_gtT, v0_gtF, v0_leT, v0_leF, v0_geT, v0_geF, v0_eqT, v0_eqF, v0_add, v0_dda, v0_mul, v0_lum, v0_sub, v0_bad, v0_cl, v40_eqT, v40_eqF, v41_eqT, v41_eqF, v42_eqT, v42_eqF, v43_eqT, v43_eqF, v44_eqT, v44_eqF, v45_eqT, v45_eqF, v46_eqT, v46_eqF, v59_eqT, v59_eqF, v60_eqT, v60_eqF, v61_eqT, v61_eqF, v92_eqT, v92_eqF]); rw [ht_234_1, ch_234_1]
  by_cases c2 : c = 42
  · subst c2; rw [en_234, ht_234_0, ch_234_0]; (try simp +decide (disch := omega) only [ni_bF, nI_clamp, nI_add, pk_mul, dc_ltT, dc_ltF, dc_leT, dc_leF, dc_eqF, dc_neT, dn_eq, dn_ne, dn_lt, dn_ge, si_at, si_c, si_k, q_at_nI, q_put_nI, ne_eq, not_false_eq_true, not_true_eq_false, ↓reduceIte, v0_ltT, v0_ltF, v0_gtT, v0_gtF, v0_leT, v0_leF, v0_geT, v0_geF, v0_eqT, v0_eqF, v0_add, v0_dda, v0_mul, v0_lum, v0_sub, v0_bad, v0_cl, v40_eqT, v40_eqF, v41_eqT, v41_eqF, v42_eqT, v42_eqF, v43_eqT, v43_eqF, v44_eqT, v44_eqF, v45_eqT, v45_eqF, v46_eqT, v46_eqF, v59_eqT, v59_eqF, v60_eqT, v60_eqF, v61_eqT, v61_eqF, v92_eqT, v92_eqF]); rw [ht_234_1, ch_234_1]
  by_cases c3 : c = 43
  · subst c3; rw [en_234, ht_234_0, ch_234_0]; (try simp +decide (disch := omega) only [ni_bF, nI_clamp, nI_add, pk_mul, dc_ltT, dc_ltF, dc_leT, dc_leF, dc_eqF, dc_neT, dn_eq, dn_ne, dn_lt, dn_ge, si_at, si_c, si_k, q_at_nI, q_put_nI, ne_eq, not_false_eq_true, not_true_eq_false, ↓reduceIte, v0_ltT, v0_ltF, v0_gtT, v0_gtF, v0_leT, v0_leF, v0_geT, v0_geF, v0_eqT, v0_eqF, v0_add, v0_dda, v0_mul, v0_lum, v0_sub, v0_bad, v0_cl, v40_eqT, v40_eqF, v41_eqT, v41_eqF, v42_eqT, v42_eqF, v43_eqT, v43_eqF, v44_eqT, v44_eqF, v45_eqT, v45_eqF, v46_eqT, v46_eqF, v59_eqT, v59_eqF, v60_eqT, v60_eqF, v61_eqT, v61_eqF, v92_eqT, v92_eqF]); rw [ht_234_1, ch_234_1]
  by_cases c4 : c = 44
  · subst c4; rw [en_234, ht_234_0, ch_234_0]; (try simp +decide (disch := omega) only [ni_bF, nI_clamp, nI_add, pk_mul, dc_ltT, dc_ltF, dc_leT, dc_leF, dc_eqF, dc_neT, dn_eq, dn_ne, dn_lt, dn_ge, si_at, si_c, si_k, q_at_nI, q_put_nI, ne_eq, not_false_eq_true, not_true_eq_false, ↓reduceIte, v0_ltT, v0_ltF, v0_gtT, v0_gtF, v0_leT, v0_leF, v0_geT, v0_geF, v0_eqT, v0_eqF, v0_add, v0_dda, v0_mul, v0_lum, v0_sub, v0_bad, v0_cl, v40_eqT, v40_eqF, v41_eqT, v41_eqF, v42_eqT, v42_eqF, v43_eqT, v43_eqF, v44_eqT, v44_eqF, v45_eqT, v45_eqF, v46_eqT, v46_eqF, v59_eqT, v59_eqF, v60_eqT, v60_eqF, v61_eqT, v61_eqF, v92_eqT, v92_eqF]); rw [ht_234_1, ch_234_1]
  by_cases c5 : c = 45
  · subst c5; rw [en_234, ht_234_0, ch_234_0]; (try simp +decide (disch := omega) only [ni_bF, nI_clamp, nI_add, pk_mul, dc_ltT, dc_ltF, dc_leT, dc_leF, dc_eqF, dc_neT, dn_eq, dn_ne, dn_lt, dn_ge, si_at, si_c, si_k, q_at_nI, q_put_nI, ne_eq, not_false_eq_true, not_true_eq_false, ↓reduceIte, v0_ltT, v0_ltF, v0_gtT, v0_gtF, v0_leT, v0_leF, v0_geT, v0_geF, v0_eqT, v0_eqF, v0_add, v0_dda, v0_mul, v0_lum, v0_sub, v0_bad, v0_cl, v40_eqT, v40_eqF, v41_eqT, v41_eqF, v42_eqT, v42_eqF, v43_eqT, v43_eqF, v44_eqT, v44_eqF, v45_eqT, v45_eqF, v46_eqT, v46_eqF, v59_eqT, v59_eqF, v60_eqT, v60_eqF, v61_eqT, v61_eqF, v92_eqT, v92_eqF]); rw [ht_234_1, ch_234_1]
  by_cases c6 : c = 46
  · subst c6; rw [en_234, ht_234_0, ch_234_0]; (try simp +decide (disch := omega) only [ni_bF, nI_clamp, nI_add, pk_mul, dc_ltT, dc_ltF, dc_leT, dc_leF, dc_eqF, dc_neT, dn_eq, dn_ne, dn_lt, dn_ge, si_at, si_c, si_k, q_at_nI, q_put_nI, ne_eq, not_false_eq_true, not_true_eq_false, ↓reduceIte, v0_ltT, v0_ltF, v0_gtT, v0_gtF, v0_leT, v0_leF, v0_geT, v0_geF, v0_eqT, v0_eqF, v0_add, v0_dda, v0_mul, v0_lum, v0_sub, v0_bad, v0_cl, v40_eqT, v40_eqF, v41_eqT, v41_eqF, v42_eqT, v42_eqF, v43_eqT, v43_eqF, v44_eqT, v44_eqF, v45_eqT, v45_eqF, v46_eqT, v46_eqF, v59_eqT, v59_eqF, v60_eqT, v60_eqF, v61_eqT, v61_eqF, v92_eqT, v92_eqF]); rw [ht_234_1, ch_234_1]
  by_cases c7 : c = 59
  · subst c7; rw [en_234, ht_234_0, ch_234_0]; (try simp +decide (disch := omega) only [ni_bF, nI_clamp, nI_add, pk_mul, dc_ltT, dc_ltF, dc_leT, dc_leF, dc_eqF, dc_neT, dn_eq, dn_ne, dn_lt, dn_ge, si_at, si_c, si_k, q_at_nI, q_put_nI, ne_eq, not_false_eq_true, not_true_eq_false, ↓reduceIte, v0_ltT, v0_ltF, v0_gtT, v0_gtF, v0_leT, v0_leF, v0_geT, v0_geF, v0_eqT, v0_eqF, v0_add, v0_dda, v0_mul, v0_lum, v0_sub, v0_bad, v0_cl, v40_eqT, v40_eqF, v41_eqT, v41_eqF, v42_eqT, v42_eqF, v43_eqT, v43_eqF, v44_eqT, v44_eqF, v45_eqT, v45_eqF, v46_eqT, v46_eqF, v59_eqT, v59_eqF, v60_eqT, v60_eqF, v61_eqT, v61_eqF, v92_eqT, v92_eqF]); rw [ht_234_1, ch_234_1]
  by_cases c8 : c = 60
  · subst c8; rw [en_234, ht_234_0, ch_234_0]; (try simp +decide (disch := omega) only [ni_bF, nI_clamp, nI_add, pk_mul, dc_ltT, dc_ltF, dc_leT, dc_leF, dc_eqF, dc_neT, dn_eq, dn_ne, dn_lt, dn_ge, si_at, si_c, si_k, q_at_nI, q_put_nI, ne_eq, not_false_eq_true, not_true_eq_false, ↓reduceIte, v0_ltT, v0_ltF, v0_gtT, v0_gtF, v0_leT, v0_leF, v0_geT, v0_geF, v0_eqT, v0_eqF, v0_add, v0_dda, v0_mul, v0_lum, v0_sub, v0_bad, v0_cl, v40_eqT, v40_eqF, v41_eqT, v41_eqF, v42_eqT, v42_eqF, v43_eqT, v43_eqF, v44_eqT, v44_eqF, v45_eqT, v45_eqF, v46_eqT, v46_eqF, v59_eqT, v59_eqF, v60_eqT, v60_eqF, v61_eqT, v61_eqF, v92_eqT, v92_eqF]); rw [ht_234_1, ch_234_1]
  by_cases c9 : c = 61
  · subst c9; rw [en_234, ht_234_0, ch_234_0]; (try simp +decide (disch := omega) only [ni_bF, nI_clamp, nI_add, pk_mul, dc_ltT, dc_ltF, dc_leT, dc_leF, dc_eqF, dc_neT, dn_eq, dn_ne, dn_lt, dn_ge, si_at, si_c, si_k, q_at_nI, q_put_nI, ne_eq, not_false_eq_true, not_true_eq_false, ↓reduceIte, v0_ltT, v0_ltF, v0_gtT, v0_gtF, v0_leT, v0_leF, v0_geT, v0_geF, v0_eqT, v0_eqF, v0_add, v0_dda, v0_mul, v0_lum, v0_sub, v0_bad, v0_cl, v40_eqT, v40_eqF, v41_eqT, v41_eqF, v42_eqT, v42_eqF, v43_eqT, v43_eqF, v44_eqT, v44_eqF, v45_eqT, v45_eqF, v46_eqT, v46_eqF, v59_eqT, v59_eqF, v60_eqT, v60_eqF, v61_eqT, v61_eqF, v92_eqT, v92_eqF]); rw [ht_234_1, ch_234_1]
  by_cases c10 : c = 92
  · subst c10; rw [en_234, ht_234_0, ch_234_0]; (try simp +decide (disch := omega) only [ni_bF, nI_clamp, nI_add, pk_mul, dc_ltT, dc_ltF, dc_leT, dc_leF, dc_eqF, dc_neT, dn_eq, dn_ne, dn_lt, dn_ge, si_at, si_c, si_k, q_at_nI, q_put_nI, ne_eq, not_false_eq_true, not_true_eq_false, ↓reduceIte, v0_ltT, v0_ltF, v0_gtT, v0_gtF, v0_leT, v0_leF, v0_geT, v0_geF, v0_eqT, v0_eqF, v0_add, v0_dda, v0_mul, v0_lum, v0_sub, v0_bad, v0_cl, v40_eqT, v40_eqF, v41_eqT, v41_eqF, v42_eqT, v42_eqF, v43_eqT, v43_eqF, v44_eqT, v44_eqF, v45_eqT, v45_eqF, v46_eqT, v46_eqF, v59_eqT, v59_eqF, v60_eqT, v60_eqF, v61_eqT, v61_eqF, v92_eqT, v92_eqF]); rw [ht_234_1, ch_234_1]
  rw [show ch_s c = false by simp [ch_s, c0, c1, c2, c3, c4, c5, c6, c7, c8, c9, c10]]
  rw [en_234, ht_234_0, ch_234_0]; (try simp +decide (disch := omega) only [ni_bF, nI_clamp, nI_add, pk_mul, dc_ltT, dc_ltF, dc_leT, dc_leF, dc_eqF, dc_neT, dn_eq, dn_ne, dn_lt, dn_ge, si_at, si_c, si_k, q_at_nI, q_put_nI, ne_eq, not_false_eq_true, not_true_eq_false, ↓reduceIte, v0_ltT, v0_ltF, v0_gtT, v0_gtF, v0_leT, v0_leF, v0_geT, v0_geF, v0_eqT, v0_eqF, v0_add, v0_dda, v0_mul, v0_lum, v0_sub, v0_bad, v0_cl, v40_eqT, v40_eqF, v41_eqT, v41_eqF, v42_eqT, v42_eqF, v43_eqT, v43_eqF, v44_eqT, v44_eqF, v45_eqT, v45_eqF, v46_eqT, v46_eqF, v59_eqT, v59_eqF, v60_eqT, v60_eqF, v61_eqT, v61_eqF, v92_eqT, v92_eqF]); rw [sk_234_1_102, ht_234_2, ch_234_2]
theorem em_isLetter (d : Nat) (T : tx_M hi B N) (h : p ≤ N) : am_call tb_P (d + 1) 21 [.ref 73, .int (nI p)] (pr_S, hi, hl) = some (some (.int (if p < N ∧ ch_l (B p) = true then 1 else 0)), (pr_S, hi, hl)) := by
  obtain ⟨t1, t2, t3⟩ := T
  by_cases c0 : p < N
  · obtain ⟨b1, b2⟩ := t3 p c0
    obtain ⟨k1, k2, k3, k4, k5⟩ := by_k (B p) b1
    by_cases c1 : by_c (B p) < 97
    · have := k2.mp c1
      rw [show ch_l (B p) = false by simp [ch_l]; omega]
      rw [en_21, ht_21_0, ch_21_0]; (try simp +decide (disch := omega) only [ni_bF, nI_clamp, nI_add, pk_mul, dc_ltT, dc_ltF, dc_leT, dc_leF, dc_eqF, dc_neT, dn_eq, dn_ne, dn_lt, dn_ge, si_at, si_c, si_k, q_at_nI, q_put_nI, ne_eq, not_false_eq_true, not_true_eq_false, ↓reduceIte, v0_ltT, v0_ltF, v0_gtT, v0_gtF, v0_leT, v0_leF, v0_geT, v0_geF, v0_eqT, v0_eqF, v0_add, v0_dda, v0_mul, v0_lum, v0_sub, v0_bad, v0_cl, v97_ltT, v97_ltF, v97_gtT, v97_gtF, v97_leT, v97_leF, v97_geT, v97_geF, v97_eqT, v97_eqF, v97_add, v97_dda, v97_mul, v97_lum, v97_sub, v97_bad, v97_cl, v122_ltT, v122_ltF, v122_gtT, v122_gtF, v122_leT, v122_leF, v122_geT, v122_geF, v122_eqT, v122_eqF, v122_add, v122_dda, v122_mul, v122_lum, v122_sub, v122_bad, v122_cl, t1, b2, c1]); rw [ht_21_1, ch_21_1, ht_21_2, ch_21_2]; try simp +decide (disch := omega) only [ni_bF, nI_clamp, nI_add, pk_mul, dc_ltT, dc_ltF, dc_leT, dc_leF, dc_eqF, dc_neT, dn_eq, dn_ne, dn_lt, dn_ge, si_at, si_c, si_k, q_at_nI, q_put_nI, ne_eq, not_false_eq_true, not_true_eq_false, ↓reduceIte, v0_ltT, v0_ltF, v0_gtT, v0_gtF, v0_leT, v0_leF, v0_geT, v0_geF, v0_eqT, v0_eqF, v0_add, v0_dda, v0_mul, v0_lum, v0_sub, v0_bad, v0_cl, v1_ltT, v1_ltF, v1_gtT, v1_gtF, v1_leT, v1_leF, v1_geT, v1_geF, v1_eqT, v1_eqF, v1_add, v1_dda, v1_mul, v1_lum, v1_sub, v1_bad, v1_cl, t1, b2, c1]; simp
    · by_cases c2 : 122 < by_c (B p)
      · have := k3.mp c2
        rw [show ch_l (B p) = false by simp [ch_l]; omega]
        rw [en_21, ht_21_0, ch_21_0]; (try simp +decide (disch := omega) only [ni_bF, nI_clamp, nI_add, pk_mul, dc_ltT, dc_ltF, dc_leT, dc_leF, dc_eqF, dc_neT, dn_eq, dn_ne, dn_lt, dn_ge, si_at, si_c, si_k, q_at_nI, q_put_nI, ne_eq, not_false_eq_true, not_true_eq_false, ↓reduceIte, v0_ltT, v0_ltF, v0_gtT, v0_gtF, v0_leT, v0_leF, v0_geT, v0_geF, v0_eqT, v0_eqF, v0_add, v0_dda, v0_mul, v0_lum, v0_sub, v0_bad, v0_cl, v97_ltT, v97_ltF, v97_gtT, v97_gtF, v97_leT, v97_leF, v97_geT, v97_geF, v97_eqT, v97_eqF, v97_add, v97_dda, v97_mul, v97_lum, v97_sub, v97_bad, v97_cl, v122_ltT, v122_ltF, v122_gtT, v122_gtF, v122_leT, v122_leF, v122_geT, v122_geF, v122_eqT, v122_eqF, v122_add, v122_dda, v122_mul, v122_lum, v122_sub, v122_bad, v122_cl, t1, b2, c1, c2]); rw [ht_21_1, ch_21_1, ht_21_2, ch_21_2]; try simp +decide (disch := omega) only [ni_bF, nI_clamp, nI_add, pk_mul, dc_ltT, dc_ltF, dc_leT, dc_leF, dc_eqF, dc_neT, dn_eq, dn_ne, dn_lt, dn_ge, si_at, si_c, si_k, q_at_nI, q_put_nI, ne_eq, not_false_eq_true, not_true_eq_false, ↓reduceIte, v0_ltT, v0_ltF, v0_gtT, v0_gtF, v0_leT, v0_leF, v0_geT, v0_geF, v0_eqT, v0_eqF, v0_add, v0_dda, v0_mul, v0_lum, v0_sub, v0_bad, v0_cl, v1_ltT, v1_ltF, v1_gtT, v1_gtF, v1_leT, v1_leF, v1_geT, v1_geF, v1_eqT, v1_eqF, v1_add, v1_dda, v1_mul, v1_lum, v1_sub, v1_bad, v1_cl, t1, b2, c1, c2]; simp
      · rw [if_pos ⟨c0, by
          have q1 : ¬ (B p < 97 ∨ 128 ≤ B p) := fun q => c1 (k2.mpr q)
          have q2 : ¬ (122 < B p ∧ B p < 128) := fun q => c2 (k3.mpr q)
          simp [ch_l]; omega⟩]
        rw [en_21, ht_21_0, ch_21_0]; (try simp +decide (disch := omega) only [ni_bF, nI_clamp, nI_add, pk_mul, dc_ltT, dc_ltF, dc_leT, dc_leF, dc_eqF, dc_neT, dn_eq, dn_ne, dn_lt, dn_ge, si_at, si_c, si_k, q_at_nI, q_put_nI, ne_eq, not_false_eq_true, not_true_eq_false, ↓reduceIte, v0_ltT, v0_ltF, v0_gtT, v0_gtF, v0_leT, v0_leF, v0_geT, v0_geF, v0_eqT, v0_eqF, v0_add, v0_dda, v0_mul, v0_lum, v0_sub, v0_bad, v0_cl, v97_ltT, v97_ltF, v97_gtT, v97_gtF, v97_leT, v97_leF, v97_geT, v97_geF, v97_eqT, v97_eqF, v97_add, v97_dda, v97_mul, v97_lum, v97_sub, v97_bad, v97_cl, v122_ltT, v122_ltF, v122_gtT, v122_gtF, v122_leT, v122_leF, v122_geT, v122_geF, v122_eqT, v122_eqF, v122_add, v122_dda, v122_mul, v122_lum, v122_sub, v122_bad, v122_cl, t1, b2, c1, c2]); rw [sk_21_1_35, ht_21_2, ch_21_2]; try simp +decide (disch := omega) only [ni_bF, nI_clamp, nI_add, pk_mul, dc_ltT, dc_ltF, dc_leT, dc_leF, dc_eqF, dc_neT, dn_eq, dn_ne, dn_lt, dn_ge, si_at, si_c, si_k, q_at_nI, q_put_nI, ne_eq, not_false_eq_true, not_true_eq_false, ↓reduceIte, v0_ltT, v0_ltF, v0_gtT, v0_gtF, v0_leT, v0_leF, v0_geT, v0_geF, v0_eqT, v0_eqF, v0_add, v0_dda, v0_mul, v0_lum, v0_sub, v0_bad, v0_cl, v1_ltT, v1_ltF, v1_gtT, v1_gtF, v1_leT, v1_leF, v1_geT, v1_geF, v1_eqT, v1_eqF, v1_add, v1_dda, v1_mul, v1_lum, v1_sub, v1_bad, v1_cl, t1, b2, c1, c2]
  · rw [if_neg (fun q => c0 q.1)]
    rw [en_21, ht_21_0, ch_21_0]; (try simp +decide (disch := omega) only [ni_bF, nI_clamp, nI_add, pk_mul, dc_ltT, dc_ltF, dc_leT, dc_leF, dc_eqF, dc_neT, dn_eq, dn_ne, dn_lt, dn_ge, si_at, si_c, si_k, q_at_nI, q_put_nI, ne_eq, not_false_eq_true, not_true_eq_false, ↓reduceIte, v0_ltT, v0_ltF, v0_gtT, v0_gtF, v0_leT, v0_leF, v0_geT, v0_geF, v0_eqT, v0_eqF, v0_add, v0_dda, v0_mul, v0_lum, v0_sub, v0_bad, v0_cl, v97_ltT, v97_ltF, v97_gtT, v97_gtF, v97_leT, v97_leF, v97_geT, v97_geF, v97_eqT, v97_eqF, v97_add, v97_dda, v97_mul, v97_lum, v97_sub, v97_bad, v97_cl, v122_ltT, v122_ltF, v122_gtT, v122_gtF, v122_leT, v122_leF, v122_geT, v122_geF, v122_eqT, v122_eqF, v122_add, v122_dda, v122_mul, v122_lum, v122_sub, v122_bad, v122_cl, t1]); rw [ht_21_1, ch_21_1, ht_21_2, ch_21_2]; try simp +decide (disch := omega) only [ni_bF, nI_clamp, nI_add, pk_mul, dc_ltT, dc_ltF, dc_leT, dc_leF, dc_eqF, dc_neT, dn_eq, dn_ne, dn_lt, dn_ge, si_at, si_c, si_k, q_at_nI, q_put_nI, ne_eq, not_false_eq_true, not_true_eq_false, ↓reduceIte, v0_ltT, v0_ltF, v0_gtT, v0_gtF, v0_leT, v0_leF, v0_geT, v0_geF, v0_eqT, v0_eqF, v0_add, v0_dda, v0_mul, v0_lum, v0_sub, v0_bad, v0_cl, v1_ltT, v1_ltF, v1_gtT, v1_gtF, v1_leT, v1_leF, v1_geT, v1_geF, v1_eqT, v1_eqF, v1_add, v1_dda, v1_mul, v1_lum, v1_sub, v1_bad, v1_cl, t1]
theorem em_isFigure (d : Nat) (T : tx_M hi B N) (h : p ≤ N) : am_call tb_P (d + 1) 22 [.ref 73, .int (nI p)] (pr_S, hi, hl) = some (some (.int (if p < N ∧ ch_f (B p) = true then 1 else 0)), (pr_S, hi, hl)) := by
  obtain ⟨t1, t2, t3⟩ := T
  by_cases c0 : p < N
  · obtain ⟨b1, b2⟩ := t3 p c0
    obtain ⟨k1, k2, k3, k4, k5⟩ := by_k (B p) b1
    by_cases c1 : by_c (B p) < 48
    · have := k4.mp c1
      rw [show ch_f (B p) = false by simp [ch_f]; omega]
      rw [en_22, ht_22_0, ch_22_0]; (try simp +decide (disch := omega) only [ni_bF, nI_clamp, nI_add, pk_mul, dc_ltT, dc_ltF, dc_leT, dc_leF, dc_eqF, dc_neT, dn_eq, dn_ne, dn_lt, dn_ge, si_at, si_c, si_k, q_at_nI, q_put_nI, ne_eq, not_false_eq_true, not_true_eq_false, ↓reduceIte, v0_ltT, v0_ltF, v0_gtT, v0_gtF, v0_leT, v0_leF, v0_geT, v0_geF, v0_eqT, v0_eqF, v0_add, v0_dda, v0_mul, v0_lum, v0_sub, v0_bad, v0_cl, v48_ltT, v48_ltF, v48_gtT, v48_gtF, v48_leT, v48_leF, v48_geT, v48_geF, v48_eqT, v48_eqF, v48_add, v48_dda, v48_mul, v48_lum, v48_sub, v48_bad, v48_cl, v57_ltT, v57_ltF, v57_gtT, v57_gtF, v57_leT, v57_leF, v57_geT, v57_geF, v57_eqT, v57_eqF, v57_add, v57_dda, v57_mul, v57_lum, v57_sub, v57_bad, v57_cl, t1, b2, c1]); rw [ht_22_1, ch_22_1, ht_22_2, ch_22_2]; try simp +decide (disch := omega) only [ni_bF, nI_clamp, nI_add, pk_mul, dc_ltT, dc_ltF, dc_leT, dc_leF, dc_eqF, dc_neT, dn_eq, dn_ne, dn_lt, dn_ge, si_at, si_c, si_k, q_at_nI, q_put_nI, ne_eq, not_false_eq_true, not_true_eq_false, ↓reduceIte, v0_ltT, v0_ltF, v0_gtT, v0_gtF, v0_leT, v0_leF, v0_geT, v0_geF, v0_eqT, v0_eqF, v0_add, v0_dda, v0_mul, v0_lum, v0_sub, v0_bad, v0_cl, v1_ltT, v1_ltF, v1_gtT, v1_gtF, v1_leT, v1_leF, v1_geT, v1_geF, v1_eqT, v1_eqF, v1_add, v1_dda, v1_mul, v1_lum, v1_sub, v1_bad, v1_cl, t1, b2, c1]; simp
    · by_cases c2 : 57 < by_c (B p)
      · have := k5.mp c2
        rw [show ch_f (B p) = false by simp [ch_f]; omega]
        rw [en_22, ht_22_0, ch_22_0]; (try simp +decide (disch := omega) only [ni_bF, nI_clamp, nI_add, pk_mul, dc_ltT, dc_ltF, dc_leT, dc_leF, dc_eqF, dc_neT, dn_eq, dn_ne, dn_lt, dn_ge, si_at, si_c, si_k, q_at_nI, q_put_nI, ne_eq, not_false_eq_true, not_true_eq_false, ↓reduceIte, v0_ltT, v0_ltF, v0_gtT, v0_gtF, v0_leT, v0_leF, v0_geT, v0_geF, v0_eqT, v0_eqF, v0_add, v0_dda, v0_mul, v0_lum, v0_sub, v0_bad, v0_cl, v48_ltT, v48_ltF, v48_gtT, v48_gtF, v48_leT, v48_leF, v48_geT, v48_geF, v48_eqT, v48_eqF, v48_add, v48_dda, v48_mul, v48_lum, v48_sub, v48_bad, v48_cl, v57_ltT, v57_ltF, v57_gtT, v57_gtF, v57_leT, v57_leF, v57_geT, v57_geF, v57_eqT, v57_eqF, v57_add, v57_dda, v57_mul, v57_lum, v57_sub, v57_bad, v57_cl, t1, b2, c1, c2]); rw [ht_22_1, ch_22_1, ht_22_2, ch_22_2]; try simp +decide (disch := omega) only [ni_bF, nI_clamp, nI_add, pk_mul, dc_ltT, dc_ltF, dc_leT, dc_leF, dc_eqF, dc_neT, dn_eq, dn_ne, dn_lt, dn_ge, si_at, si_c, si_k, q_at_nI, q_put_nI, ne_eq, not_false_eq_true, not_true_eq_false, ↓reduceIte, v0_ltT, v0_ltF, v0_gtT, v0_gtF, v0_leT, v0_leF, v0_geT, v0_geF, v0_eqT, v0_eqF, v0_add, v0_dda, v0_mul, v0_lum, v0_sub, v0_bad, v0_cl, v1_ltT, v1_ltF, v1_gtT, v1_gtF, v1_leT, v1_leF, v1_geT, v1_geF, v1_eqT, v1_eqF, v1_add, v1_dda, v1_mul, v1_lum, v1_sub, v1_bad, v1_cl, t1, b2, c1, c2]; simp
      · rw [if_pos ⟨c0, by
          have q1 : ¬ (B p < 48 ∨ 128 ≤ B p) := fun q => c1 (k4.mpr q)
          have q2 : ¬ (57 < B p ∧ B p < 128) := fun q => c2 (k5.mpr q)
          simp [ch_f]; omega⟩]
        rw [en_22, ht_22_0, ch_22_0]; (try simp +decide (disch := omega) only [ni_bF, nI_clamp, nI_add, pk_mul, dc_ltT, dc_ltF, dc_leT, dc_leF, dc_eqF, dc_neT, dn_eq, dn_ne, dn_lt, dn_ge, si_at, si_c, si_k, q_at_nI, q_put_nI, ne_eq, not_false_eq_true, not_true_eq_false, ↓reduceIte, v0_ltT, v0_ltF, v0_gtT, v0_gtF, v0_leT, v0_leF, v0_geT, v0_geF, v0_eqT, v0_eqF, v0_add, v0_dda, v0_mul, v0_lum, v0_sub, v0_bad, v0_cl, v48_ltT, v48_ltF, v48_gtT, v48_gtF, v48_leT, v48_leF, v48_geT, v48_geF, v48_eqT, v48_eqF, v48_add, v48_dda, v48_mul, v48_lum, v48_sub, v48_bad, v48_cl, v57_ltT, v57_ltF, v57_gtT, v57_gtF, v57_leT, v57_leF, v57_geT, v57_geF, v57_eqT, v57_eqF, v57_add, v57_dda, v57_mul, v57_lum, v57_sub, v57_bad, v57_cl, t1, b2, c1, c2]); rw [sk_22_1_35, ht_22_2, ch_22_2]; try simp +decide (disch := omega) only [ni_bF, nI_clamp, nI_add, pk_mul, dc_ltT, dc_ltF, dc_leT, dc_leF, dc_eqF, dc_neT, dn_eq, dn_ne, dn_lt, dn_ge, si_at, si_c, si_k, q_at_nI, q_put_nI, ne_eq, not_false_eq_true, not_true_eq_false, ↓reduceIte, v0_ltT, v0_ltF, v0_gtT, v0_gtF, v0_leT, v0_leF, v0_geT, v0_geF, v0_eqT, v0_eqF, v0_add, v0_dda, v0_mul, v0_lum, v0_sub, v0_bad, v0_cl, v1_ltT, v1_ltF, v1_gtT, v1_gtF, v1_leT, v1_leF, v1_geT, v1_geF, v1_eqT, v1_eqF, v1_add, v1_dda, v1_mul, v1_lum, v1_sub, v1_bad, v1_cl, t1, b2, c1, c2]
  · rw [if_neg (fun q => c0 q.1)]
    rw [en_22, ht_22_0, ch_22_0]; (try simp +decide (disch := omega) only [ni_bF, nI_clamp, nI_add, pk_mul, dc_ltT, dc_ltF, dc_leT, dc_leF, dc_eqF, dc_neT, dn_eq, dn_ne, dn_lt, dn_ge, si_at, si_c, si_k, q_at_nI, q_put_nI, ne_eq, not_false_eq_true, not_true_eq_false, ↓reduceIte, v0_ltT, v0_ltF, v0_gtT, v0_gtF, v0_leT, v0_leF, v0_geT, v0_geF, v0_eqT, v0_eqF, v0_add, v0_dda, v0_mul, v0_lum, v0_sub, v0_bad, v0_cl, v48_ltT, v48_ltF, v48_gtT, v48_gtF, v48_leT, v48_leF, v48_geT, v48_geF, v48_eqT, v48_eqF, v48_add, v48_dda, v48_mul, v48_lum, v48_sub, v48_bad, v48_cl, v57_ltT, v57_ltF, v57_gtT, v57_gtF, v57_leT, v57_leF, v57_geT, v57_geF, v57_eqT, v57_eqF, v57_add, v57_dda, v57_mul, v57_lum, v57_sub, v57_bad, v57_cl, t1]); rw [ht_22_1, ch_22_1, ht_22_2, ch_22_2]; try simp +decide (disch := omega) only [ni_bF, nI_clamp, nI_add, pk_mul, dc_ltT, dc_ltF, dc_leT, dc_leF, dc_eqF, dc_neT, dn_eq, dn_ne, dn_lt, dn_ge, si_at, si_c, si_k, q_at_nI, q_put_nI, ne_eq, not_false_eq_true, not_true_eq_false, ↓reduceIte, v0_ltT, v0_ltF, v0_gtT, v0_gtF, v0_leT, v0_leF, v0_geT, v0_geF, v0_eqT, v0_eqF, v0_add, v0_dda, v0_mul, v0_lum, v0_sub, v0_bad, v0_cl, v1_ltT, v1_ltF, v1_gtT, v1_gtF, v1_leT, v1_leF, v1_geT, v1_geF, v1_eqT, v1_eqF, v1_add, v1_dda, v1_mul, v1_lum, v1_sub, v1_bad, v1_cl, t1]
end TK
