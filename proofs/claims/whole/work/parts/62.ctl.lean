/-! the control of both machines: evaluating, handing back, at an end -/
theorem xg_n {h : Nat → Nat → Int32} {q : Nat} {a b : Int32} (e : q ≠ 45) : xg h a b q = h q := by unfold xg; rw [am_si_ne e, am_si_ne e, am_si_ne e]
theorem xh_n {h : Nat → Nat → Int32} {q : Nat} {a b : Int32} (e : q ≠ 45) : xh h a b q = h q := by unfold xh; rw [am_si_ne e, am_si_ne e, am_si_ne e]
theorem xgm_n {h : Nat → Nat → Int32} {q : Nat} {a b : Int32} (e : q ≠ 73) : xgm h a b q = h q := by unfold xgm; rw [am_si_ne e, am_si_ne e, am_si_ne e]
theorem xhm_n {h : Nat → Nat → Int32} {q : Nat} {a b : Int32} (e : q ≠ 73) : xhm h a b q = h q := by unfold xhm; rw [am_si_ne e, am_si_ne e, am_si_ne e]
theorem xg_s {h : Nat → Nat → Int32} {j : Nat} {a b : Int32} (e : j ≠ 12 ∧ j ≠ 13 ∧ j ≠ 14) : xg h a b 45 j = h 45 j := by unfold xg; rw [am_si_off (by omega), am_si_off (by omega), am_si_off (by omega)]
theorem xh_s {h : Nat → Nat → Int32} {j : Nat} {a b : Int32} (e : j ≠ 15 ∧ j ≠ 16 ∧ j ≠ 14) : xh h a b 45 j = h 45 j := by unfold xh; rw [am_si_off (by omega), am_si_off (by omega), am_si_off (by omega)]
theorem xgm_s {h : Nat → Nat → Int32} {j : Nat} {a b : Int32} (e : j ≠ 79 ∧ j ≠ 80 ∧ j ≠ 78) : xgm h a b 73 j = h 73 j := by unfold xgm; rw [am_si_off (by omega), am_si_off (by omega), am_si_off (by omega)]
theorem xhm_s {h : Nat → Nat → Int32} {j : Nat} {a b : Int32} (e : j ≠ 81 ∧ j ≠ 82 ∧ j ≠ 78) : xhm h a b 73 j = h 73 j := by unfold xhm; rw [am_si_off (by omega), am_si_off (by omega), am_si_off (by omega)]
def rn_P (lim nb ne nc nf np nw s cn cl i a b e : Nat) : Prop := nb + 2 * nw + a ≤ 2 * s + 4 ∧ nc + nw ≤ s + 4 + b ∧ nf + nw ≤ s ∧ np ≤ s ∧ ne ≤ nb ∧ i + nw + e ≤ 2 * s ∧ s ≤ lim ∧ lim ≤ 10000 ∧ nw ≤ 400 ∧ cn ≤ s ∧ cl + nw ≤ s
def rn_E (h0 : Nat → Nat → Int32) (z nd nn : Nat) (hC hM : Nat → Nat → Int32) (nb ne x : Nat) : Prop := hC 45 14 = 0 ∧ hM 73 78 = 0 ∧ hC 45 12 = nI x ∧ hM 73 79 = nI (z + x) ∧ rn_V h0 nd nn hC hM nb ne x (hC 45 13) (hM 73 80) ∧ hC 45 11 = -1 ∧ hM 73 77 = 7
def rn_H (sz : Nat → Nat) (hC hM : Nat → Nat → Int32) (nb nf np : Nat) : Prop := hC 45 14 = 1 ∧ hM 73 78 = 1 ∧ hM 73 81 = hC 45 15 ∧ rn_W sz hC hM nb nf np (hC 45 15) (hC 45 16) (hM 73 82) ∧ hC 45 11 = -1 ∧ hM 73 77 = 7
/-- under way, i turns done -/
def rn_On (h0 h1 : Nat → Nat → Int32) (z nd nn : Nat) (sz : Nat → Nat) (lim : Nat) (md : Int32) (hC hM : Nat → Nat → Int32) (i : Nat) : Prop := ∃ nb ne nc nf np nw s cn cl, rn_S h0 h1 z nd nn sz lim md hC hM nb ne nc nf np nw s cn cl ∧ ((∃ x, rn_E h0 z nd nn hC hM nb ne x ∧ rn_P lim nb ne nc nf np nw s cn cl i 0 0 0) ∨ (rn_H sz hC hM nb nf np ∧ ((hC 45 15 ≠ 2 ∧ rn_P lim nb ne nc nf np nw s cn cl i 2 0 1) ∨ (hC 45 15 = 2 ∧ rn_P lim nb ne nc nf np nw s cn cl i 0 1 1))))
/-- at an end that gives no value -/
def rn_End (h0 h1 : Nat → Nat → Int32) (z nd nn : Nat) (sz : Nat → Nat) (lim : Nat) (md : Int32) (hC hM : Nat → Nat → Int32) : Prop := ∃ nb ne nc nf np nw s cn cl, rn_S h0 h1 z nd nn sz lim md hC hM nb ne nc nf np nw s cn cl ∧ nb ≤ 20100 ∧ cn + cl < 2 ^ 30 ∧ hM 73 77 = hC 45 11 ∧ (hC 45 11 = 3 ∨ hC 45 11 = 4 ∨ hC 45 11 = 5 ∨ hC 45 11 = 6)
section CT
variable {h0 h1 hC hM hC' hM' : Nat → Nat → Int32} {z nd nn lim : Nat} {sz : Nat → Nat} {md : Int32} {nb ne nc nf np nw s cn cl i x : Nat}
theorem rn_Vc (a : ∀ c, c ≠ 45 → hC' c = hC c) (b : ∀ c, c ≠ 73 → hM' c = hM c) {x : Nat} {sb se : Int32} (v : rn_V h0 nd nn hC hM nb ne x sb se) : rn_V h0 nd nn hC' hM' nb ne x sb se := rn_Vs (fun i _ => by rw [a _ (by decide)]) (fun i _ => by rw [a _ (by decide)]) (fun i _ => by rw [b _ (by decide)]) (fun i _ => by rw [b _ (by decide)]) (Nat.le_refl _) (Nat.le_refl _) _ _ _ v
theorem rn_Wc (a : ∀ c, c ≠ 45 → hC' c = hC c) (b : ∀ c, c ≠ 73 → hM' c = hM c) {k c v : Int32} (u : rn_W sz hC hM nb nf np k c v) : rn_W sz hC' hM' nb nf np k c v := by
  unfold rn_W at u ⊢
  rw [a _ (by decide), a _ (by decide), b _ (by decide), b _ (by decide)]
  exact u
theorem rn_ma {j : Nat} {v : Int32} (hj : j ≠ 9 ∧ j ≠ 10) (S : rn_S h0 h1 z nd nn sz lim md hC hM nb ne nc nf np nw s cn cl) : rn_S h0 h1 z nd nn sz lim md (am_si hC 45 j v) hM nb ne nc nf np nw s cn cl := rn_ctl (fun c hc => am_si_ne hc) (fun k hk => am_si_off (by omega)) (fun _ _ => rfl) (fun _ _ => rfl) S
theorem rn_mo {j : Nat} {v : Int32} (hj : 77 ≤ j) (S : rn_S h0 h1 z nd nn sz lim md hC hM nb ne nc nf np nw s cn cl) : rn_S h0 h1 z nd nn sz lim md hC (am_si hM 73 j v) nb ne nc nf np nw s cn cl := rn_ctl (fun _ _ => rfl) (fun _ _ => rfl) (fun c hc => am_si_ne hc) (fun x hx => am_si_off (by omega)) S
theorem rn_go {a b a' b' : Int32} (S : rn_S h0 h1 z nd nn sz lim md hC hM nb ne nc nf np nw s cn cl) : rn_S h0 h1 z nd nn sz lim md (xg hC a b) (xgm hM a' b') nb ne nc nf np nw s cn cl := rn_ctl (fun c hc => xg_n hc) (fun k hk => xg_s (by omega)) (fun c hc => xgm_n hc) (fun x hx => xgm_s (by omega)) S
theorem rn_hand {a b a' b' : Int32} (S : rn_S h0 h1 z nd nn sz lim md hC hM nb ne nc nf np nw s cn cl) : rn_S h0 h1 z nd nn sz lim md (xh hC a b) (xhm hM a' b') nb ne nc nf np nw s cn cl := rn_ctl (fun c hc => xh_n hc) (fun k hk => xh_s (by omega)) (fun c hc => xhm_n hc) (fun x hx => xhm_s (by omega)) S
theorem on_go {sb se : Int32} (S : rn_S h0 h1 z nd nn sz lim md hC hM nb ne nc nf np nw s cn cl) (v : rn_V h0 nd nn hC hM nb ne x sb se) (o1 : hC 45 11 = -1) (o2 : hM 73 77 = 7) (P : rn_P lim nb ne nc nf np nw s cn cl i 0 0 0) : rn_On h0 h1 z nd nn sz lim md (xg hC (nI x) sb) (xgm hM (nI (z + x)) se) i := by
  refine ⟨nb, ne, nc, nf, np, nw, s, cn, cl, rn_go S, Or.inl ⟨x, ⟨rfl, rfl, rfl, rfl, ?_, ?_, ?_⟩, P⟩⟩
  · exact rn_Vc (fun c hc => xg_n hc) (fun c hc => xgm_n hc) v
  · rw [xg_s (by decide)]; exact o1
  · rw [xgm_s (by decide)]; exact o2
theorem on_hand {k c v : Int32} (S : rn_S h0 h1 z nd nn sz lim md hC hM nb ne nc nf np nw s cn cl) (u : rn_W sz hC hM nb nf np k c v) (o1 : hC 45 11 = -1) (o2 : hM 73 77 = 7) (P : (k ≠ 2 ∧ rn_P lim nb ne nc nf np nw s cn cl i 2 0 1) ∨ (k = 2 ∧ rn_P lim nb ne nc nf np nw s cn cl i 0 1 1)) : rn_On h0 h1 z nd nn sz lim md (xh hC k c) (xhm hM k v) i := by
  refine ⟨nb, ne, nc, nf, np, nw, s, cn, cl, rn_hand S, Or.inr ⟨⟨rfl, rfl, rfl, ?_, ?_, ?_⟩, P⟩⟩
  · exact rn_Wc (fun c hc => xh_n hc) (fun c hc => xhm_n hc) u
  · rw [xh_s (by decide)]; exact o1
  · rw [xhm_s (by decide)]; exact o2
end CT
