/-! trees with the marks that the names got -/
theorem wf_res {K M M' A B C : Nat → Int32} {nd lim : Nat} (h2 : ∀ i, i < lim → K i = 2 → ∃ e, M' i = nI e ∧ e < nd) (h3 : ∀ i, i < lim → K i ≠ 2 → M' i = M i) : ∀ {x f g k s a b : Nat} {G : List Nat}, k < lim → wf_N K M A B C 1 x f g k s a b G → wf_N K M' A B C nd x f g k s a b G
  | 0, _, _, _, _, _, _, _, _, h => h.elim
  | x + 1, f, g, k, s, a, b, G, hk, h => by
    have ne : ∀ {c : Int32}, K k = c → c ≠ 2 → M' k = M k := fun e q => h3 k hk (by rw [e]; exact q)
    rcases h with h | ⟨h0, h1, h2', t, h3', h4⟩ | ⟨h0, h1, h2', _⟩ | ⟨h0, f', g', i, j, c, p1, p2, p3, p4, p5, w1, w2⟩ | ⟨h0, f', g', j, p1, p2, p3, p4, p5, w1⟩ | ⟨h0, f', g', i, j, c, p1, p2, p3, p4, p5, p6, w1, w2⟩ | ⟨h0, f', g', i, j, l, c, e, p1, p2, p3, p4, p5, p6, w1, w2, w3⟩ | ⟨h0, f', g', i, j, c, p1, p2, p3, p4, p5, p6, w1, w2⟩ | ⟨h0, m0, f1, f', i, j, c, p1, p2, p3, p4, p5, w1, w2⟩ | ⟨h0, f1, f', i, j, c, p1, p2, p3, p4, p5, w1, w2⟩
    · exact Or.inl h
    · exact Or.inr (Or.inl ⟨h0, h1, h2', t, by rw [ne h0 (by decide)]; exact h3', h4⟩)
    · exact Or.inr (Or.inr (Or.inl ⟨h0, h1, h2', h2 k hk h0⟩))
    · have := wf_ord w2
      exact Or.inr (Or.inr (Or.inr (Or.inl ⟨h0, f', g', i, j, c, p1, p2, p3, p4, p5, wf_res h2 h3 (by omega) w1, wf_res h2 h3 (by omega) w2⟩)))
    · exact Or.inr (Or.inr (Or.inr (Or.inr (Or.inl ⟨h0, f', g', j, p1, p2, by rw [ne h0 (by decide)]; exact p3, p4, p5, wf_res h2 h3 (by omega) w1⟩))))
    · have := wf_ord w2
      exact Or.inr (Or.inr (Or.inr (Or.inr (Or.inr (Or.inl ⟨h0, f', g', i, j, c, p1, p2, by rw [ne h0 (by decide)]; exact p3, p4, p5, p6, wf_res h2 h3 (by omega) w1, wf_res h2 h3 (by omega) w2⟩)))))
    · have := wf_ord w2
      have := wf_ord w3
      exact Or.inr (Or.inr (Or.inr (Or.inr (Or.inr (Or.inr (Or.inl ⟨h0, f', g', i, j, l, c, e, p1, p2, p3, p4, p5, p6, wf_res h2 h3 (by omega) w1, wf_res h2 h3 (by omega) w2, wf_res h2 h3 (by omega) w3⟩))))))
    · have := wf_ord w2
      exact Or.inr (Or.inr (Or.inr (Or.inr (Or.inr (Or.inr (Or.inr (Or.inl ⟨h0, f', g', i, j, c, p1, p2, by rw [ne h0 (by decide)]; exact p3, p4, p5, p6, wf_res h2 h3 (by omega) w1, wf_res h2 h3 (by omega) w2⟩)))))))
    · have := wf_ord w2
      exact Or.inr (Or.inr (Or.inr (Or.inr (Or.inr (Or.inr (Or.inr (Or.inr (Or.inl ⟨h0, by rw [ne h0 (by decide)]; exact m0, f1, f', i, j, c, p1, p2, p3, p4, p5, wf_res h2 h3 (by omega) w1, wf_res h2 h3 (by omega) w2⟩))))))))
    · have := wf_ord w2
      exact Or.inr (Or.inr (Or.inr (Or.inr (Or.inr (Or.inr (Or.inr (Or.inr (Or.inr ⟨h0, f1, f', i, j, c, p1, p2, p3, p4, p5, wf_res h2 h3 (by omega) w1, wf_res h2 h3 (by omega) w2⟩))))))))
section RS
variable {H0 H1 hC hM : Nat → Nat → Int32} {G0 G1 gC gM : Nat → Nat → Int64} {B : Nat → Nat} {N M rd D e w0 : Nat}
/-- behind the first token: right with nothing read, or doomed -/
theorem rd_start (X : px hC hM gM B N M rd) (t0 : hC 1 0 = nI N) (a : at_C hC gC B N (tp B N 0)) (p1 : hC 32 1 = 0) (p2 : hC 32 2 = 0) (p3 : hC 32 3 = 0) (p0 : hC 32 0 = -1) (s0 : hC 3 0 = 0) (s1 : hC 3 1 = 0) (s2 : hC 3 2 = 0) (m6 : hM 73 6 = 0) (m26 : hM 73 26 = 0) (m29 : hM 73 29 = 0) (m24 : hM 73 24 = 0) (m32 : hM 73 32 = nI w0) (mg : hM 86 rd = 0) (ms : hM 85 rd = 0) (ht : tok B N (tp B N 0) ≠ 1) : df_R hC gC hM gM B N M rd 0 0 0 0 (fun _ => 0) (fun _ => 0) (fun _ => 0) (fun _ => 0) hC gC hM gM := by
  refine ⟨⟨fun _ _ _ _ _ _ => rfl, t0, fun _ _ _ _ => rfl, fun _ _ _ _ _ _ => rfl, fun _ _ _ _ _ _ _ _ => rfl, fun _ _ _ => rfl, fun _ _ _ _ _ => rfl, fun _ _ _ _ => rfl, fun _ _ _ _ _ => rfl, fun _ _ _ _ _ => rfl⟩, ⟨⟨a, ht, Nat.zero_le _⟩, ⟨p1, p2, p3, p0⟩, ⟨?_, ?_, ?_, am_si_at _ _ _ _, ?_⟩, ⟨rfl, trivial, fun i hi => absurd hi (by omega), fun x hx => by cases hx⟩, ⟨s1, ?_, by omega, fun i hi => absurd hi (by omega)⟩, ⟨s2, fun i hi => absurd hi (by omega)⟩, by omega, by omega⟩, s0, ms, by omega, by omega, rfl, ⟨rfl, fun e he => absurd he (by omega)⟩, w0, m32⟩
  · rw [am_si_off (by decide)]; exact m6
  · rw [am_si_off (by decide)]; exact m26
  · rw [am_si_off (by decide)]; exact m29
  · rw [am_si_off (by decide)]; exact m24
  · rw [am_si_ne (by decide)]; exact mg
theorem rd_bad (t0 : hC 1 0 = nI N) (a : at_C hC gC B N (tp B N 0)) (m6 : hM 73 6 = 0) (m26 : hM 73 26 = 0) (m24 : hM 73 24 = 0) (m32 : hM 73 32 = nI w0) (ht : tok B N (tp B N 0) = 1) : pp_D hC gC hM gM B N M rd 0 (xfl hC 1 (hC 1 2)) gC hM gM := by
  refine ⟨⟨fun c q1 _ _ q4 _ => by unfold xfl; rw [am_si_ne q1, am_si_ne q4, am_si_ne q4], by unfold xfl; rw [am_si_off (by decide), am_si_ne (by decide), am_si_ne (by decide)]; exact t0, fun _ _ _ _ => rfl, fun _ _ _ _ _ _ => rfl, fun _ _ _ _ _ _ _ _ => rfl, fun _ _ _ => rfl, fun _ _ _ _ _ => rfl, fun _ _ _ _ => rfl, fun _ _ _ _ _ => rfl, fun _ _ _ _ _ => rfl⟩, 0, 0, w0, ⟨1, tp B N 0, ?_, by decide, ?_, ?_, m6, Nat.zero_le _, m24, m32, Or.inl ⟨m26, rfl, rfl, ht⟩⟩, by omega⟩
  · unfold xfl; rw [am_si_ne (by decide), am_si_off (by decide), am_si_at]
  · unfold xfl; rw [am_si_ne (by decide), am_si_at]; exact a.1
  · unfold xfl; rw [am_si_at]
end RS
