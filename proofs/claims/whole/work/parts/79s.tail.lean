/-! both parsers side by side: a DEF from its = on -/
section DT
variable {H0 H1 hC hM : Nat → Nat → Int32} {G0 G1 gC gM : Nat → Nat → Int64} {B : Nat → Nat} {N M rd k o n t w π D e s : Nat} {G : List Nat} {Φ : Nat → Nat → Nat → List Nat → Prop}
theorem df_tail (X : px H0 H1 G1 B N M rd) (F : fx H0 G0 H1 G1 N rd hC gC hM gM) (hDl : D < 24) (S : sx hC gC hM gM B N M rd 0 w 0 Φ hC gC hM gM) (hΦ : ∀ k n t G, Φ k n t G → hC 3 0 = nI (D + 1) ∧ hM 85 rd = nI D) : ∃ (hC5 : Nat → Nat → Int32) (gC5 : Nat → Nat → Int64) (hM5 : Nat → Nat → Int32) (rC rM : Int32) (hC6 : Nat → Nat → Int32) (gC6 : Nat → Nat → Int64) (hM6 : Nat → Nat → Int32) (gM6 : Nat → Nat → Int64) (hC8 : Nat → Nat → Int32) (gC8 : Nat → Nat → Int64) (hM8 : Nat → Nat → Int32), am_call tb_P (e + 338) 178 [.ref 32, .int 61] (pr_S, hC, gC) = some (none, (pr_S, hC5, gC5)) ∧ am_call tb_P (e + 338) 29 [.ref 73, .int 61] (pr_S, hM, gM) = some (none, (pr_S, hM5, gM)) ∧ am_call tb_P (e + 338) 181 [.ref 32] (pr_S, hC5, gC5) = some (some (.int rC), (pr_S, hC6, gC6)) ∧ am_call tb_P (e + 338) 35 [.ref 73] (pr_S, hM5, gM) = some (some (.int rM), (pr_S, hM6, gM6)) ∧ am_call tb_P (e + 338) 178 [.ref 32, .int 59] (pr_S, am_si hC6 8 D rC, gC6) = some (none, (pr_S, hC8, gC8)) ∧ am_call tb_P (e + 338) 29 [.ref 73, .int 59] (pr_S, am_si hM6 88 (24 * rd + D) rM, gM6) = some (none, (pr_S, hM8, gM6)) ∧ fx H0 G0 H1 G1 N rd hC8 gC8 hM8 gM6 ∧ hM8 73 32 = nI w ∧ ((∃ k' n' t' G k n t, Φ k n t G ∧ po hC8 gC8 hM8 gM6 B N M rd k' 0 n' t' w G ∧ 3 * n' ≤ qk B N k' ∧ n < n' ∧ t ≤ t' ∧ rC = nI (n' - 1) ∧ rM = nI (2900 * rd + (n' - 1)) ∧ wfx hC8 205 40 (n' - 1) n t t' G ∧ (∀ i, t ≤ i → i < t' → hC8 10 i = nI D ∧ hC8 9 i ≠ 0) ∧ (∀ c i, 9 ≤ c → c ≤ 11 → i < t → hC8 c i = hC c i) ∧ (∀ c i, 12 ≤ c → c ≤ 16 → i < n → hC8 c i = hC c i) ∧ (∀ c, 5 ≤ c → c < 8 → hC8 c = hC c) ∧ hC8 8 = (am_si hC 8 D rC) 8 ∧ gC8 4 = gC 4 ∧ (∀ c, 85 ≤ c → c ≤ 90 → c ≠ 86 → c ≠ 88 → hM8 c = hM c) ∧ hM8 88 = (am_si hM 88 (24 * rd + D) rM) 88 ∧ gM6 91 = gM 91 ∧ hC8 3 0 = hC 3 0) ∨ ∃ k n w, pb hC8 hM8 B N M k n w ∧ 3 * (n + 0) ≤ qk B N k + 3) := by
  have X' := px_fx X F
  obtain ⟨hC5, gC5, hM5, a1, a2, a3, a4, S5⟩ := sx_expc (e + 332) 61 X' (by decide) (by decide) S
  obtain ⟨rC, rM, hC6, gC6, hM6, gM6, b1, b2, S6⟩ := sx_ex0 (D := D) (e := e + 328) X' (by
    rintro k n t G ⟨k0, q⟩
    obtain ⟨q1, q2⟩ := hΦ _ _ _ _ q
    have := ex_all (g0 := gC) (e := e) X' q1 q2 40 (Nat.le_refl _)
    rw [show 8 * 40 + e + 18 = e + 328 + 10 by omega] at this
    exact this) S5
  have F6 : fx H0 G0 H1 G1 N rd hC6 gC6 hM6 gM6 := by
    rcases S6 with ⟨_, _, _, _, P, _⟩ | ⟨_, _, P, _⟩
    · exact fx_pf F P.1 P.2.1
    · exact fx_pf F P.1 P.2.1
  have oC : ∀ c, c ≠ 3 → (c < 5 ∨ 8 < c) → (am_si hC6 8 D rC) c = hC6 c := fun c _ q => am_si_ne (by omega)
  have oM : ∀ c, (c < 85 ∨ 90 < c ∨ c = 86) → (am_si hM6 88 (24 * rd + D) rM) c = hM6 c := fun c q => am_si_ne (by omega)
  have F7 : fx H0 G0 H1 G1 N rd (am_si hC6 8 D rC) gC6 (am_si hM6 88 (24 * rd + D) rM) gM6 := fx_ext F6 oC (fun _ _ => rfl) oM (fun i _ => by rw [am_si_ne (by decide)]) (fun c i q1 q2 q3 => by
    by_cases ee : c = 88
    · subst ee; rw [am_si_off (by omega)]
    · rw [am_si_ne ee]) (fun _ _ => rfl)
  have X7 := px_fx X F7
  have S7 : sx (am_si hC6 8 D rC) gC6 (am_si hM6 88 (24 * rd + D) rM) gM6 B N M rd 0 w 0 (fun k' n' t' G => ∃ k n t, Φ k n t G ∧ n < n' ∧ t ≤ t' ∧ rC = nI (n' - 1) ∧ rM = nI (2900 * rd + (n' - 1)) ∧ wfx hC6 205 40 (n' - 1) n t t' G ∧ gw hC5 hC6 n t t' D ∧ pf_C hC gC N hC6 gC6 ∧ pf_M hM gM rd hM6 gM6) (am_si hC6 8 D rC) gC6 (am_si hM6 88 (24 * rd + D) rM) gM6 := by
    rcases S6 with ⟨k', n', t', G, P, J, k, n, t, ⟨k0, q⟩, x1, x2, x3, x4, x5, x6⟩ | ⟨k, n, P, J⟩
    · exact Or.inl ⟨k', n', t', G, ⟨pf_Cr F7.2.1, pf_Mr, po_ext P.2.2 oC (by rw [am_si_ne (by decide)]) (by rw [am_si_ne (by decide)]) (fun _ _ => rfl) oM (fun _ _ => rfl)⟩, J, k0, n, t, q, x1, x2, x3, x4, x5, x6, P.1, P.2.1⟩
    · exact Or.inr ⟨k, n, ⟨pf_Cr F7.2.1, pf_Mr, pb_ext P.2.2 oC oM⟩, J⟩
  obtain ⟨hC8, gC8, hM8, c1, c2, c3, c4, S8⟩ := sx_expc (e + 332) 59 X7 (by decide) (by decide) S7
  refine ⟨hC5, gC5, hM5, rC, rM, hC6, gC6, hM6, gM6, hC8, gC8, hM8, a1, a2, b1, b2, c1, c2, ?_, sx_32 S8, ?_⟩
  · rcases S8 with ⟨_, _, _, _, P, _⟩ | ⟨_, _, P, _⟩
    · exact fx_pf F7 P.1 P.2.1
    · exact fx_pf F7 P.1 P.2.1
  · rcases S8 with ⟨k', n', t', G, P, J, k8, k, n, t, q, x1, x2, x3, x4, x5, x6, x7, x8⟩ | ⟨k, n, P, J⟩
    · refine Or.inl ⟨k', n', t', G, k, n, t, q, P.2.2, by omega, x1, x2, x3, x4, ?_, ?_, ?_, ?_, ?_, ?_, ?_, ?_, ?_, ?_, ?_⟩
      · exact wfx_cg (n := n') x5 (by omega) (fun c i q1 q2 q3 => by rw [c3 c (by omega) (by omega), am_si_ne (by omega)])
      · intro i q1 q2
        rw [c3 _ (by decide) (by decide), c3 _ (by decide) (by decide), am_si_ne (by decide), am_si_ne (by decide)]
        exact x6.2.1 i q1 q2
      · intro c i q1 q2 q3
        rw [c3 c (by omega) (by omega), am_si_ne (by omega), x6.1 c i q1 q2 q3, a3 c (by omega) (by omega)]
      · intro c i q1 q2 q3
        rw [c3 c (by omega) (by omega), am_si_ne (by omega), x6.2.2 c i q1 q2 q3, a3 c (by omega) (by omega)]
      · intro c q1 q2
        rw [c3 c (by omega) (by omega), am_si_ne (by omega), x7.1 c (by omega) (by omega) (by omega) (by omega) (by omega)]
      · rw [c3 _ (by decide) (by decide), am_si_self, am_si_self, x7.1 8 (by decide) (by decide) (by decide) (by decide) (by decide)]
      · rw [P.1.2.2.2 4 (by decide) (by decide), x7.2.2.2 4 (by decide) (by decide)]
      · intro c q1 q2 q3 q4
        rw [P.2.1.1 c (by omega) (by omega) q3 (by omega) (by omega), am_si_ne q4, x8.1 c (by omega) (by omega) q3 (by omega) (by omega)]
      · rw [P.2.1.1 88 (by decide) (by decide) (by decide) (by decide) (by decide), am_si_self, am_si_self, x8.1 88 (by decide) (by decide) (by decide) (by decide) (by decide)]
      · exact x8.2.2.1 91 (by decide)
      · rw [P.1.2.1, am_si_ne (by decide)]; exact x7.2.1
    · exact Or.inr ⟨k, n, w, P.2.2, J⟩
end DT
