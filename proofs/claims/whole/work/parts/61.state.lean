/-! a RUN: both machines, whole -/
def rn_V (h0 : Nat → Nat → Int32) (nd nn : Nat) (hC hM : Nat → Nat → Int32) (nb ne : Nat) : Nat → Int32 → Int32 → Prop := sr_E h0 nd nn (hC 49) (hC 52) (hM 114) (hM 115) nb ne
def rn_W (sz : Nat → Nat) (hC hM : Nat → Nat → Int32) (nb nf np : Nat) : Int32 → Int32 → Int32 → Prop := fun k c v => sr_V (hM 122) (hM 123) nb nf np k c v ∧ (k = 1 → ∀ f, f < nf → c = nI f → ∀ m d, m ≤ 4 → d < 24 → hC 62 f = nI m → hC 61 f = nI d → m < sz d)
def rn_n (hC hM : Nat → Nat → Int32) (nb ne nc nf np nw : Nat) : Prop := hC 48 0 = nI nb ∧ hC 54 0 = nI nc ∧ hC 60 0 = nI nf ∧ hC 67 0 = nI nw ∧ hM 73 54 = nI nb ∧ hM 73 57 = nI ne ∧ hM 73 49 = nI nc ∧ hM 73 64 = nI nf ∧ hM 73 67 = nI np ∧ hM 73 71 = nI nw
def rn_k (hC hM : Nat → Nat → Int32) (s cn cl : Nat) : Prop := hC 46 0 = nI s ∧ hM 128 0 = nI s ∧ hC 46 1 = nI cn ∧ hM 128 1 = nI cn ∧ hC 46 6 = nI cl ∧ hM 128 6 = nI cl ∧ hM 128 2 = hC 46 2 ∧ hM 128 3 = hC 46 3 ∧ hM 128 4 = hC 46 4 ∧ hM 128 5 = hC 46 5
def rn_f (h0 h1 hC hM : Nat → Nat → Int32) (lim : Nat) (md : Int32) : Prop := (∀ c, c < 45 ∨ 71 < c → hC c = h0 c) ∧ hC 45 9 = nI lim ∧ hC 45 10 = md ∧ (∀ c, c < 105 → c ≠ 73 → hM c = h1 c) ∧ (∀ x, x < 49 → hM 73 x = h1 73 x) ∧ hM 73 74 = 0 ∧ hM 73 75 = md ∧ hM 73 76 = nI lim
def rn_S (h0 h1 : Nat → Nat → Int32) (z nd nn : Nat) (sz : Nat → Nat) (lim : Nat) (md : Int32) (hC hM : Nat → Nat → Int32) (nb ne nc nf np nw s cn cl : Nat) : Prop :=
  rn_n hC hM nb ne nc nf np nw ∧ rn_k hC hM s cn cl ∧ rn_f h0 h1 hC hM lim md
  ∧ mr_B nb nc (hC 49) (hC 50) (hC 51) (hM 110) (hM 111) (hM 112)
  ∧ (∀ b, b < nb → ∀ u, u < 200 → hC 49 b = nI u → h0 23 u ≠ 4)
  ∧ nd_R nb cn cl (-1) (hC 49) (hC 51) (hC 53) (hM 113) (hC 47) (hM 127)
  ∧ mr_Ce z nc (rn_V h0 nd nn hC hM nb ne) (rn_W sz hC hM nb nf np) (hC 55) (hC 56) (hC 57) (hC 58) (hC 59) (hM 105) (hM 106) (hM 107) (hM 108) (hM 109)
  ∧ mr_Fu h0 z nd nb nc nf sz (rn_V h0 nd nn hC hM nb ne) (hC 61) (hC 62) (hC 63) (hC 64) (hC 65) (hC 66) (hM 116) (hM 117) (hM 119) (hM 120) (hM 121) (hM 118)
  ∧ (∀ f, f < nf → ∃ v, v ≤ cl ∧ hC 66 f = nI v)
  ∧ mr_Wa h0 z nc nw (rn_V h0 nd nn hC hM nb ne) (hC 68) (hC 69) (hC 70) (hC 71) (hM 126) (hM 124) (hM 125) (hM 129)
  ∧ (∃ q, nw ≤ q ∧ q ≤ 400 ∧ hC 46 5 = nI q)
theorem upd_upd (f : Nat → Int32) (n : Nat) (a b : Int32) : upd (upd f n a) n b = upd f n b := by
  funext i
  by_cases e : i = n
  · subst e; rw [upd_at, upd_at]
  · rw [upd_ne e, upd_ne e, upd_ne e]
theorem mr_Fa {h0 : Nat → Nat → Int32} {z nd nb nc nf : Nat} {sz : Nat → Nat} {V : Nat → Int32 → Int32 → Prop} {OR GV LK CE FR CL FN FE FC FF FM CL' : Nat → Int32} {og gv lk ce fr cl fn fe fc ff fm cl' : Int32}
    (Q : (gv = -1 ∧ cl' = cl ∧ ∃ x, og = nI x ∧ fn = nI (z + x) ∧ h0 26 x = 4 ∧ V x lk fe) ∨ (∃ m d, gv = nI m ∧ og = nI d ∧ d < nd ∧ m ≤ sz d ∧ fn = nI d - 1000000 ∧ fm = nI m ∧ (0 < m → fc = ce ∧ ff = fr ∧ sr_o nc ce ∧ sr_o nb fr ∧ ∃ g, g < nf ∧ lk = nI g ∧ fe = nI g ∧ GV g = nI (m - 1) ∧ OR g = nI d)))
    (r : mr_Fu h0 z nd nb nc nf sz V OR GV LK CE FR CL FN FE FC FF FM CL') : mr_Fu h0 z nd nb nc (nf + 1) sz V (upd OR nf og) (upd GV nf gv) (upd LK nf lk) (upd CE nf ce) (upd FR nf fr) (upd CL nf cl) (upd FN nf fn) (upd FE nf fe) (upd FC nf fc) (upd FF nf ff) (upd FM nf fm) (upd CL' nf cl') := fun f hf => by
  by_cases e : f = nf
  · subst e
    simp only [upd_at]
    rcases Q with Q | ⟨m, d, q1, q2, q3, q4, q5, q6, q7⟩
    · exact Or.inl Q
    · refine Or.inr ⟨m, d, q1, q2, q3, q4, q5, q6, fun hm => ?_⟩
      obtain ⟨c1, c2, c3, c4, g, c5, c6, c7, c8, c9⟩ := q7 hm
      exact ⟨c1, c2, c3, c4, g, c5, c6, c7, by rw [upd_ne (by omega)]; exact c8, by rw [upd_ne (by omega)]; exact c9⟩
  · simp only [upd_ne e]
    rcases r f (by omega) with q | ⟨m, d, q1, q2, q3, q4, q5, q6, q7⟩
    · exact Or.inl q
    · refine Or.inr ⟨m, d, q1, q2, q3, q4, q5, q6, fun hm => ?_⟩
      obtain ⟨c1, c2, c3, c4, g, c5, c6, c7, c8, c9⟩ := q7 hm
      exact ⟨c1, c2, c3, c4, g, c5, c6, c7, by rw [upd_ne (by omega)]; exact c8, by rw [upd_ne (by omega)]; exact c9⟩
/-- one more that waits, or another in its place -/
theorem mr_Wp {h0 : Nat → Nat → Int32} {z nc nw : Nat} {V : Nat → Int32 → Int32 → Prop} {WK WN WS WD WF WN' WE LO LO' : Nat → Int32} {k x b v x' e : Int32} (hL : ∀ w, w < nw → LO' w = LO w)
    (Q : (k = 5 ∧ ∃ c, c < nc ∧ v = nI c ∧ x' = nI c) ∨ (∃ y, x = nI y ∧ x' = nI (z + y) ∧ V y b e ∧ ((k = 0 ∧ h0 26 y = 6) ∨ (k = 1 ∧ h0 26 y = 7) ∨ (k = 2 ∧ h0 26 y = 8) ∨ (k = 3 ∧ h0 26 y = 8 ∧ LO' nw = v) ∨ (k = 4 ∧ h0 26 y = 9))))
    (r : mr_Wa h0 z nc nw V WK WN WS WD WF WN' WE LO) : mr_Wa h0 z nc (nw + 1) V (upd WK nw k) (upd WN nw x) (upd WS nw b) (upd WD nw v) (upd WF nw k) (upd WN' nw x') (upd WE nw e) LO' := fun w hw => by
  by_cases e : w = nw
  · subst e
    simp only [upd_at]
    exact ⟨trivial, Q⟩
  · simp only [upd_ne e]
    rw [hL w (by omega)]
    exact r w (by omega)
theorem mr_Wl {h0 : Nat → Nat → Int32} {z nc nw nw' : Nat} {V : Nat → Int32 → Int32 → Prop} {WK WN WS WD WF WN' WE LO : Nat → Int32} (h : nw' ≤ nw) (r : mr_Wa h0 z nc nw V WK WN WS WD WF WN' WE LO) : mr_Wa h0 z nc nw' V WK WN WS WD WF WN' WE LO := fun w hw => r w (by omega)
section RN
variable {h0 h1 hC hM hC' hM' : Nat → Nat → Int32} {z nd nn lim : Nat} {sz : Nat → Nat} {md : Int32} {nb ne nc nf np nw s cn cl : Nat}
theorem rn_fm (a : ∀ c, c < 45 ∨ 71 < c → hC' c = hC c) (a2 : ∀ j, j = 9 ∨ j = 10 → hC' 45 j = hC 45 j) (b : ∀ c, c < 105 → c ≠ 73 → hM' c = hM c) (b2 : ∀ x, x < 49 ∨ x = 74 ∨ x = 75 ∨ x = 76 → hM' 73 x = hM 73 x) (f : rn_f h0 h1 hC hM lim md) : rn_f h0 h1 hC' hM' lim md := by
  obtain ⟨f1, f2, f3, f4, f5, f6, f7, f8⟩ := f
  exact ⟨fun c hc => (a c hc).trans (f1 c hc), (a2 9 (Or.inl rfl)).trans f2, (a2 10 (Or.inr rfl)).trans f3, fun c x y => (b c x y).trans (f4 c x y), fun x hx => (b2 x (Or.inl hx)).trans (f5 x hx), (b2 74 (Or.inr (Or.inl rfl))).trans f6, (b2 75 (Or.inr (Or.inr (Or.inl rfl)))).trans f7, (b2 76 (Or.inr (Or.inr (Or.inr rfl)))).trans f8⟩
/-- the control of both machines is outside -/
theorem rn_ctl (a : ∀ c, c ≠ 45 → hC' c = hC c) (a2 : ∀ j, j = 9 ∨ j = 10 → hC' 45 j = hC 45 j) (b : ∀ c, c ≠ 73 → hM' c = hM c) (b2 : ∀ x, x < 77 → hM' 73 x = hM 73 x) (S : rn_S h0 h1 z nd nn sz lim md hC hM nb ne nc nf np nw s cn cl) : rn_S h0 h1 z nd nn sz lim md hC' hM' nb ne nc nf np nw s cn cl := by
  obtain ⟨S1, S2, S3, S4, S5, S6, S7, S8, S9, S10, S11⟩ := S
  have F := rn_fm (fun c hc => a c (by omega)) a2 (fun c _ y => b c y) (fun x hx => b2 x (by omega)) S3
  refine ⟨?_, ?_, F, ?_, ?_, ?_, ?_, ?_, ?_, ?_, ?_⟩
  · unfold rn_n at S1 ⊢
    simp (disch := decide) only [a, b2]
    exact S1
  · unfold rn_k at S2 ⊢
    simp (disch := decide) only [a, b]
    exact S2
  · simp (disch := decide) only [a, b]; exact S4
  · simp (disch := decide) only [a]; exact S5
  · simp (disch := decide) only [a, b]; exact S6
  · unfold rn_V rn_W at S7 ⊢; simp (disch := decide) only [a, b]; exact S7
  · unfold rn_V at S8 ⊢; simp (disch := decide) only [a, b]; exact S8
  · simp (disch := decide) only [a]; exact S9
  · unfold rn_V at S10 ⊢; simp (disch := decide) only [a, b]; exact S10
  · simp (disch := decide) only [a]; exact S11
theorem rn_Vs {nb' ne' : Nat} (a1 : ∀ i, i < nb → hC' 49 i = hC 49 i) (a2 : ∀ i, i < nb → hC' 52 i = hC 52 i) (b1 : ∀ i, i < ne → hM' 114 i = hM 114 i) (b2 : ∀ i, i < ne → hM' 115 i = hM 115 i) (hb : nb ≤ nb') (he : ne ≤ ne') : ∀ x b e, rn_V h0 nd nn hC hM nb ne x b e → rn_V h0 nd nn hC' hM' nb' ne' x b e := fun x b e => sr_Em (fun i hi => ⟨a1 i hi, a2 i hi⟩) (fun i hi => ⟨b1 i hi, b2 i hi⟩) hb he
theorem rn_Ws {nb' nf' np' : Nat} (a1 : ∀ i, i < nf → hC' 62 i = hC 62 i) (a2 : ∀ i, i < nf → hC' 61 i = hC 61 i) (b1 : ∀ i, i < np → hM' 122 i = hM 122 i) (b2 : ∀ i, i < np → hM' 123 i = hM 123 i) (hb : nb ≤ nb') (hf : nf ≤ nf') (hp : np ≤ np') (h31 : nf' < 2 ^ 31) : ∀ k c v, rn_W sz hC hM nb nf np k c v → rn_W sz hC' hM' nb' nf' np' k c v := fun k c v w => ⟨sr_Vm (fun i hi => ⟨b1 i hi, b2 i hi⟩) hb hf hp w.1, fun q f f1 e m d m1 d1 e1 e2 => by
  rcases w.1 with ⟨y, _⟩ | ⟨_, g, g1, g2, _⟩ | ⟨y, _⟩
  · rw [q] at y; exact absurd y (by decide)
  · have : f = g := (nI_eq (by omega) (by omega)).mp (e.symm.trans g2)
    subst this
    rw [a1 f g1] at e1
    rw [a2 f g1] at e2
    exact w.2 q f g1 e m d m1 d1 e1 e2
  · rw [q] at y; exact absurd y (by decide)⟩

theorem rn_bind {t c f o : Int32} (ht : sr_o 200 t) (hk : ∀ u, u < 200 → t = nI u → h0 23 u ≠ 4) (hc : sr_o nc c) (hf : sr_o nb f) (hb : nb < 2 ^ 31) (h31 : nf < 10100) (S : rn_S h0 h1 z nd nn sz lim md hC hM nb ne nc nf np nw s cn cl) (a : ∀ q, q ≠ 49 ∧ q ≠ 50 ∧ q ≠ 51 ∧ q ≠ 52 ∧ q ≠ 53 ∧ q ≠ 48 → hC' q = hC q) (a0 : hC' 49 = upd (hC 49) nb t) (a1 : hC' 50 = upd (hC 50) nb c) (a2 : hC' 51 = upd (hC 51) nb f) (a3 : hC' 52 = upd (hC 52) nb o) (a4 : hC' 53 = upd (hC 53) nb 0) (a5 : hC' 48 = upd (hC 48) 0 (nI (nb + 1))) (b : ∀ q, q ≠ 110 ∧ q ≠ 111 ∧ q ≠ 112 ∧ q ≠ 113 ∧ q ≠ 73 → hM' q = hM q) (b0 : hM' 110 = upd (hM 110) nb t) (b1 : hM' 111 = upd (hM 111) nb c) (b2 : hM' 112 = upd (hM 112) nb f) (b3 : hM' 113 = upd (hM 113) nb 0) (b4 : hM' 73 = upd (hM 73) 54 (nI (nb + 1))) : rn_S h0 h1 z nd nn sz lim md hC' hM' (nb + 1) ne nc nf np nw s cn cl := by
  obtain ⟨S1, S2, S3, S4, S5, S6, S7, S8, S9, S10, S11⟩ := S
  have V : ∀ x b e, rn_V h0 nd nn hC hM nb ne x b e → rn_V h0 nd nn hC' hM' (nb + 1) ne x b e := rn_Vs (fun i hi => by rw [a0, upd_ne (by omega)]) (fun i hi => by rw [a3, upd_ne (by omega)]) (fun i hi => by rw [b _ (by decide)]) (fun i hi => by rw [b _ (by decide)]) (by omega) (by omega)
  have W : ∀ k c v, rn_W sz hC hM nb nf np k c v → rn_W sz hC' hM' (nb + 1) nf np k c v := rn_Ws (fun i hi => by rw [a _ (by decide)]) (fun i hi => by rw [a _ (by decide)]) (fun i hi => by rw [b _ (by decide)]) (fun i hi => by rw [b _ (by decide)]) (by omega) (by omega) (by omega) (by omega)
  refine ⟨?_, ?_, rn_fm (fun c hc => a c (by omega)) (fun j hj => by rw [a _ (by decide)]) (fun c x y => b c (by omega)) (fun x hx => by rw [b4, upd_ne (by omega)]) S3, ?_, ?_, ?_, ?_, ?_, ?_, ?_, ?_⟩
  · obtain ⟨n1, n2, n3, n4, n5, n6, n7, n8, n9, n10⟩ := S1
    unfold rn_n; simp (disch := decide) only [a, a0, a1, a2, a3, a4, a5, b, b0, b1, b2, b3, b4, upd_at, upd_ne]; refine ⟨?_, ?_, ?_, ?_, ?_, ?_, ?_, ?_, ?_, ?_⟩ <;> first | assumption | trivial
  · obtain ⟨n1, n2, n3, n4, n5, n6, n7, n8, n9, n10⟩ := S2
    unfold rn_k; simp (disch := decide) only [a, a0, a1, a2, a3, a4, a5, b, b0, b1, b2, b3, b4, upd_at, upd_ne]; refine ⟨?_, ?_, ?_, ?_, ?_, ?_, ?_, ?_, ?_, ?_⟩ <;> assumption
  · (try simp (disch := decide) only [a, a0, a1, a2, a3, a4, a5, b, b0, b1, b2, b3, b4, upd_at, upd_ne]); exact mr_Ba ht hc hf S4
  · (try simp (disch := decide) only [a, a0, a1, a2, a3, a4, a5, b, b0, b1, b2, b3, b4, upd_at, upd_ne]); intro b' hb2 u hu e
    by_cases y : b' = nb
    · subst y; rw [upd_at] at e; exact hk u hu e
    · rw [upd_ne y] at e; exact S5 b' (by omega) u hu e
  · (try simp (disch := decide) only [a, a0, a1, a2, a3, a4, a5, b, b0, b1, b2, b3, b4, upd_at, upd_ne]); exact nd_bind hb (fun i hi => (S4 i hi).2.2.2.2.2) hf S6
  · (try simp (disch := decide) only [a, a0, a1, a2, a3, a4, a5, b, b0, b1, b2, b3, b4, upd_at, upd_ne]); exact mr_Cm V W S7
  · (try simp (disch := decide) only [a, a0, a1, a2, a3, a4, a5, b, b0, b1, b2, b3, b4, upd_at, upd_ne]); exact mr_Fm V (by omega) (by omega) S8
  · (try simp (disch := decide) only [a, a0, a1, a2, a3, a4, a5, b, b0, b1, b2, b3, b4, upd_at, upd_ne]); exact S9
  · (try simp (disch := decide) only [a, a0, a1, a2, a3, a4, a5, b, b0, b1, b2, b3, b4, upd_at, upd_ne]); exact mr_Wm V (by omega) S10
  · (try simp (disch := decide) only [a, a0, a1, a2, a3, a4, a5, b, b0, b1, b2, b3, b4, upd_at, upd_ne]); exact S11
theorem rn_within {bb uu : Int32} (h31 : nf < 10100) (S : rn_S h0 h1 z nd nn sz lim md hC hM nb ne nc nf np nw s cn cl) (b : ∀ q, q ≠ 114 ∧ q ≠ 115 ∧ q ≠ 73 → hM' q = hM q) (b0 : hM' 114 = upd (hM 114) ne bb) (b1 : hM' 115 = upd (hM 115) ne uu) (b2 : hM' 73 = upd (hM 73) 57 (nI (ne + 1))) : rn_S h0 h1 z nd nn sz lim md hC hM' nb (ne + 1) nc nf np nw s cn cl := by
  obtain ⟨S1, S2, S3, S4, S5, S6, S7, S8, S9, S10, S11⟩ := S
  have V : ∀ x b e, rn_V h0 nd nn hC hM nb ne x b e → rn_V h0 nd nn hC hM' nb (ne + 1) x b e := rn_Vs (fun i hi => rfl) (fun i hi => rfl) (fun i hi => by rw [b0, upd_ne (by omega)]) (fun i hi => by rw [b1, upd_ne (by omega)]) (by omega) (by omega)
  have W : ∀ k c v, rn_W sz hC hM nb nf np k c v → rn_W sz hC hM' nb nf np k c v := rn_Ws (fun i hi => rfl) (fun i hi => rfl) (fun i hi => by rw [b _ (by decide)]) (fun i hi => by rw [b _ (by decide)]) (by omega) (by omega) (by omega) (by omega)
  refine ⟨?_, ?_, rn_fm (fun _ _ => rfl) (fun _ _ => rfl) (fun c x y => b c (by omega)) (fun x hx => by rw [b2, upd_ne (by omega)]) S3, ?_, ?_, ?_, ?_, ?_, ?_, ?_, ?_⟩
  · obtain ⟨n1, n2, n3, n4, n5, n6, n7, n8, n9, n10⟩ := S1
    unfold rn_n; simp (disch := decide) only [b, b0, b1, b2, upd_at, upd_ne]; refine ⟨?_, ?_, ?_, ?_, ?_, ?_, ?_, ?_, ?_, ?_⟩ <;> first | assumption | trivial
  · obtain ⟨n1, n2, n3, n4, n5, n6, n7, n8, n9, n10⟩ := S2
    unfold rn_k; simp (disch := decide) only [b, b0, b1, b2, upd_at, upd_ne]; refine ⟨?_, ?_, ?_, ?_, ?_, ?_, ?_, ?_, ?_, ?_⟩ <;> assumption
  · (try simp (disch := decide) only [b, b0, b1, b2, upd_at, upd_ne]); exact S4
  · (try simp (disch := decide) only [b, b0, b1, b2, upd_at, upd_ne]); exact S5
  · (try simp (disch := decide) only [b, b0, b1, b2, upd_at, upd_ne]); exact S6
  · (try simp (disch := decide) only [b, b0, b1, b2, upd_at, upd_ne]); exact mr_Cm V W S7
  · (try simp (disch := decide) only [b, b0, b1, b2, upd_at, upd_ne]); exact mr_Fm V (by omega) (by omega) S8
  · (try simp (disch := decide) only [b, b0, b1, b2, upd_at, upd_ne]); exact S9
  · (try simp (disch := decide) only [b, b0, b1, b2, upd_at, upd_ne]); exact mr_Wm V (by omega) S10
  · (try simp (disch := decide) only [b, b0, b1, b2, upd_at, upd_ne]); exact S11
theorem rn_cell {x : Nat} {sb se kp : Int32} (hV : rn_V h0 nd nn hC hM nb ne x sb se) (h31 : nf < 10100) (S : rn_S h0 h1 z nd nn sz lim md hC hM nb ne nc nf np nw s cn cl) (a : ∀ q, q ≠ 55 ∧ q ≠ 56 ∧ q ≠ 57 ∧ q ≠ 58 ∧ q ≠ 59 ∧ q ≠ 54 ∧ q ≠ 46 → hC' q = hC q) (a0 : hC' 55 = upd (hC 55) nc (nI x)) (a1 : hC' 56 = upd (hC 56) nc sb) (a2 : hC' 57 = upd (hC 57) nc (-1)) (a3 : hC' 58 = upd (hC 58) nc 0) (a4 : hC' 59 = upd (hC 59) nc kp) (a5 : hC' 54 = upd (hC 54) 0 (nI (nc + 1))) (a6 : hC' 46 = upd (hC 46) 2 (hC 46 2 + 1)) (b : ∀ q, q ≠ 105 ∧ q ≠ 106 ∧ q ≠ 107 ∧ q ≠ 108 ∧ q ≠ 109 ∧ q ≠ 73 ∧ q ≠ 128 → hM' q = hM q) (b0 : hM' 105 = upd (hM 105) nc (nI (z + x))) (b1 : hM' 106 = upd (hM 106) nc se) (b2 : hM' 107 = upd (hM 107) nc (-1)) (b3 : hM' 108 = upd (hM 108) nc 0) (b4 : hM' 109 = upd (hM 109) nc kp) (b5 : hM' 73 = upd (hM 73) 49 (nI (nc + 1))) (b6 : hM' 128 = upd (hM 128) 2 (hM 128 2 + 1)) : rn_S h0 h1 z nd nn sz lim md hC' hM' nb ne (nc + 1) nf np nw s cn cl := by
  obtain ⟨S1, S2, S3, S4, S5, S6, S7, S8, S9, S10, S11⟩ := S
  have V : ∀ x b e, rn_V h0 nd nn hC hM nb ne x b e → rn_V h0 nd nn hC' hM' nb ne x b e := rn_Vs (fun i hi => by rw [a _ (by decide)]) (fun i hi => by rw [a _ (by decide)]) (fun i hi => by rw [b _ (by decide)]) (fun i hi => by rw [b _ (by decide)]) (by omega) (by omega)
  have W : ∀ k c v, rn_W sz hC hM nb nf np k c v → rn_W sz hC' hM' nb nf np k c v := rn_Ws (fun i hi => by rw [a _ (by decide)]) (fun i hi => by rw [a _ (by decide)]) (fun i hi => by rw [b _ (by decide)]) (fun i hi => by rw [b _ (by decide)]) (by omega) (by omega) (by omega) (by omega)
  refine ⟨?_, ?_, rn_fm (fun c hc => a c (by omega)) (fun j hj => by rw [a _ (by decide)]) (fun c x y => b c (by omega)) (fun x hx => by rw [b5, upd_ne (by omega)]) S3, ?_, ?_, ?_, ?_, ?_, ?_, ?_, ?_⟩
  · obtain ⟨n1, n2, n3, n4, n5, n6, n7, n8, n9, n10⟩ := S1
    unfold rn_n; simp (disch := decide) only [a, a0, a1, a2, a3, a4, a5, a6, b, b0, b1, b2, b3, b4, b5, b6, upd_at, upd_ne]; refine ⟨?_, ?_, ?_, ?_, ?_, ?_, ?_, ?_, ?_, ?_⟩ <;> first | assumption | trivial
  · obtain ⟨n1, n2, n3, n4, n5, n6, n7, n8, n9, n10⟩ := S2
    unfold rn_k; simp (disch := decide) only [a, a0, a1, a2, a3, a4, a5, a6, b, b0, b1, b2, b3, b4, b5, b6, upd_at, upd_ne]; rw [n7]; refine ⟨?_, ?_, ?_, ?_, ?_, ?_, ?_, ?_, ?_, ?_⟩ <;> first | assumption | trivial
  · (try simp (disch := decide) only [a, a0, a1, a2, a3, a4, a5, a6, b, b0, b1, b2, b3, b4, b5, b6, upd_at, upd_ne]); exact mr_Bm (by omega) S4
  · (try simp (disch := decide) only [a, a0, a1, a2, a3, a4, a5, a6, b, b0, b1, b2, b3, b4, b5, b6, upd_at, upd_ne]); exact S5
  · (try simp (disch := decide) only [a, a0, a1, a2, a3, a4, a5, a6, b, b0, b1, b2, b3, b4, b5, b6, upd_at, upd_ne]); exact S6
  · (try simp (disch := decide) only [a, a0, a1, a2, a3, a4, a5, a6, b, b0, b1, b2, b3, b4, b5, b6, upd_at, upd_ne]); exact mr_Ca (V _ _ _ hV) (mr_Cm V W S7)
  · (try simp (disch := decide) only [a, a0, a1, a2, a3, a4, a5, a6, b, b0, b1, b2, b3, b4, b5, b6, upd_at, upd_ne]); exact mr_Fm V (by omega) (by omega) S8
  · (try simp (disch := decide) only [a, a0, a1, a2, a3, a4, a5, a6, b, b0, b1, b2, b3, b4, b5, b6, upd_at, upd_ne]); exact S9
  · (try simp (disch := decide) only [a, a0, a1, a2, a3, a4, a5, a6, b, b0, b1, b2, b3, b4, b5, b6, upd_at, upd_ne]); exact mr_Wm V (by omega) S10
  · (try simp (disch := decide) only [a, a0, a1, a2, a3, a4, a5, a6, b, b0, b1, b2, b3, b4, b5, b6, upd_at, upd_ne]); exact S11
theorem rn_cellK {v : Int32} {e2 : Int32} (h31 : nf < 10100) (S : rn_S h0 h1 z nd nn sz lim md hC hM nb ne nc nf np nw s cn cl) (a : ∀ q, q ≠ 55 ∧ q ≠ 56 ∧ q ≠ 57 ∧ q ≠ 58 ∧ q ≠ 59 ∧ q ≠ 54 → hC' q = hC q) (a0 : hC' 55 = upd (hC 55) nc (-1)) (a1 : hC' 56 = upd (hC 56) nc (-1)) (a2 : hC' 57 = upd (hC 57) nc 0) (a3 : hC' 58 = upd (hC 58) nc v) (a4 : hC' 59 = upd (hC 59) nc 1) (a5 : hC' 54 = upd (hC 54) 0 (nI (nc + 1))) (b : ∀ q, q ≠ 105 ∧ q ≠ 106 ∧ q ≠ 107 ∧ q ≠ 108 ∧ q ≠ 109 ∧ q ≠ 73 → hM' q = hM q) (b0 : hM' 105 = upd (hM 105) nc (-1)) (b1 : hM' 106 = upd (hM 106) nc (-1)) (b2 : hM' 107 = upd (hM 107) nc 0) (b3 : hM' 108 = upd (hM 108) nc v) (b4 : hM' 109 = upd (hM 109) nc 1) (b5 : hM' 73 = upd (hM 73) 49 (nI (nc + 1))) : rn_S h0 h1 z nd nn sz lim md hC' hM' nb ne (nc + 1) nf np nw s cn cl := by
  obtain ⟨S1, S2, S3, S4, S5, S6, S7, S8, S9, S10, S11⟩ := S
  have V : ∀ x b e, rn_V h0 nd nn hC hM nb ne x b e → rn_V h0 nd nn hC' hM' nb ne x b e := rn_Vs (fun i hi => by rw [a _ (by decide)]) (fun i hi => by rw [a _ (by decide)]) (fun i hi => by rw [b _ (by decide)]) (fun i hi => by rw [b _ (by decide)]) (by omega) (by omega)
  have W : ∀ k c v, rn_W sz hC hM nb nf np k c v → rn_W sz hC' hM' nb nf np k c v := rn_Ws (fun i hi => by rw [a _ (by decide)]) (fun i hi => by rw [a _ (by decide)]) (fun i hi => by rw [b _ (by decide)]) (fun i hi => by rw [b _ (by decide)]) (by omega) (by omega) (by omega) (by omega)
  refine ⟨?_, ?_, rn_fm (fun c hc => a c (by omega)) (fun j hj => by rw [a _ (by decide)]) (fun c x y => b c (by omega)) (fun x hx => by rw [b5, upd_ne (by omega)]) S3, ?_, ?_, ?_, ?_, ?_, ?_, ?_, ?_⟩
  · obtain ⟨n1, n2, n3, n4, n5, n6, n7, n8, n9, n10⟩ := S1
    unfold rn_n; simp (disch := decide) only [a, a0, a1, a2, a3, a4, a5, b, b0, b1, b2, b3, b4, b5, upd_at, upd_ne]; refine ⟨?_, ?_, ?_, ?_, ?_, ?_, ?_, ?_, ?_, ?_⟩ <;> first | assumption | trivial
  · obtain ⟨n1, n2, n3, n4, n5, n6, n7, n8, n9, n10⟩ := S2
    unfold rn_k; simp (disch := decide) only [a, a0, a1, a2, a3, a4, a5, b, b0, b1, b2, b3, b4, b5, upd_at, upd_ne]; refine ⟨?_, ?_, ?_, ?_, ?_, ?_, ?_, ?_, ?_, ?_⟩ <;> assumption
  · (try simp (disch := decide) only [a, a0, a1, a2, a3, a4, a5, b, b0, b1, b2, b3, b4, b5, upd_at, upd_ne]); exact mr_Bm (by omega) S4
  · (try simp (disch := decide) only [a, a0, a1, a2, a3, a4, a5, b, b0, b1, b2, b3, b4, b5, upd_at, upd_ne]); exact S5
  · (try simp (disch := decide) only [a, a0, a1, a2, a3, a4, a5, b, b0, b1, b2, b3, b4, b5, upd_at, upd_ne]); exact S6
  · (try simp (disch := decide) only [a, a0, a1, a2, a3, a4, a5, b, b0, b1, b2, b3, b4, b5, upd_at, upd_ne]); intro c hc
    by_cases y : c = nc
    · subst y
      simp only [upd_at]
      exact ⟨trivial, trivial, Or.inr ⟨Or.inl ⟨rfl, rfl⟩, fun q => absurd q (by decide)⟩⟩
    · simp only [upd_ne y]
      exact mr_Cm V W S7 c (by omega)
  · (try simp (disch := decide) only [a, a0, a1, a2, a3, a4, a5, b, b0, b1, b2, b3, b4, b5, upd_at, upd_ne]); exact mr_Fm V (by omega) (by omega) S8
  · (try simp (disch := decide) only [a, a0, a1, a2, a3, a4, a5, b, b0, b1, b2, b3, b4, b5, upd_at, upd_ne]); exact S9
  · (try simp (disch := decide) only [a, a0, a1, a2, a3, a4, a5, b, b0, b1, b2, b3, b4, b5, upd_at, upd_ne]); exact mr_Wm V (by omega) S10
  · (try simp (disch := decide) only [a, a0, a1, a2, a3, a4, a5, b, b0, b1, b2, b3, b4, b5, upd_at, upd_ne]); exact S11
theorem rn_fun {og gv lk ce fr fn fe fc ff fm : Int32} (Q : (gv = -1 ∧ (0 : Int32) = 0 ∧ ∃ x, og = nI x ∧ fn = nI (z + x) ∧ h0 26 x = 4 ∧ rn_V h0 nd nn hC hM nb ne x lk fe) ∨ (∃ m d, gv = nI m ∧ og = nI d ∧ d < nd ∧ m ≤ sz d ∧ fn = nI d - 1000000 ∧ fm = nI m ∧ (0 < m → fc = ce ∧ ff = fr ∧ sr_o nc ce ∧ sr_o nb fr ∧ ∃ g, g < nf ∧ lk = nI g ∧ fe = nI g ∧ hC 62 g = nI (m - 1) ∧ hC 61 g = nI d))) (h31 : nf < 10100) (S : rn_S h0 h1 z nd nn sz lim md hC hM nb ne nc nf np nw s cn cl) (a : ∀ q, q ≠ 61 ∧ q ≠ 62 ∧ q ≠ 63 ∧ q ≠ 64 ∧ q ≠ 65 ∧ q ≠ 66 ∧ q ≠ 60 → hC' q = hC q) (a0 : hC' 61 = upd (hC 61) nf og) (a1 : hC' 62 = upd (hC 62) nf gv) (a2 : hC' 63 = upd (hC 63) nf lk) (a3 : hC' 64 = upd (hC 64) nf ce) (a4 : hC' 65 = upd (hC 65) nf fr) (a5 : hC' 66 = upd (hC 66) nf 0) (a6 : hC' 60 = upd (hC 60) 0 (nI (nf + 1))) (b : ∀ q, q ≠ 116 ∧ q ≠ 117 ∧ q ≠ 118 ∧ q ≠ 121 ∧ q ≠ 119 ∧ q ≠ 120 ∧ q ≠ 73 → hM' q = hM q) (b0 : hM' 116 = upd (hM 116) nf fn) (b1 : hM' 117 = upd (hM 117) nf fe) (b2 : hM' 118 = upd (hM 118) nf 0) (b3 : hM' 121 = upd (hM 121) nf fm) (b4 : hM' 119 = upd (hM 119) nf fc) (b5 : hM' 120 = upd (hM 120) nf ff) (b6 : hM' 73 = upd (hM 73) 64 (nI (nf + 1))) : rn_S h0 h1 z nd nn sz lim md hC' hM' nb ne nc (nf + 1) np nw s cn cl := by
  obtain ⟨S1, S2, S3, S4, S5, S6, S7, S8, S9, S10, S11⟩ := S
  have V : ∀ x b e, rn_V h0 nd nn hC hM nb ne x b e → rn_V h0 nd nn hC' hM' nb ne x b e := rn_Vs (fun i hi => by rw [a _ (by decide)]) (fun i hi => by rw [a _ (by decide)]) (fun i hi => by rw [b _ (by decide)]) (fun i hi => by rw [b _ (by decide)]) (by omega) (by omega)
  have W : ∀ k c v, rn_W sz hC hM nb nf np k c v → rn_W sz hC' hM' nb (nf + 1) np k c v := rn_Ws (fun i hi => by rw [a1, upd_ne (by omega)]) (fun i hi => by rw [a0, upd_ne (by omega)]) (fun i hi => by rw [b _ (by decide)]) (fun i hi => by rw [b _ (by decide)]) (by omega) (by omega) (by omega) (by omega)
  refine ⟨?_, ?_, rn_fm (fun c hc => a c (by omega)) (fun j hj => by rw [a _ (by decide)]) (fun c x y => b c (by omega)) (fun x hx => by rw [b6, upd_ne (by omega)]) S3, ?_, ?_, ?_, ?_, ?_, ?_, ?_, ?_⟩
  · obtain ⟨n1, n2, n3, n4, n5, n6, n7, n8, n9, n10⟩ := S1
    unfold rn_n; simp (disch := decide) only [a, a0, a1, a2, a3, a4, a5, a6, b, b0, b1, b2, b3, b4, b5, b6, upd_at, upd_ne]; refine ⟨?_, ?_, ?_, ?_, ?_, ?_, ?_, ?_, ?_, ?_⟩ <;> first | assumption | trivial
  · obtain ⟨n1, n2, n3, n4, n5, n6, n7, n8, n9, n10⟩ := S2
    unfold rn_k; simp (disch := decide) only [a, a0, a1, a2, a3, a4, a5, a6, b, b0, b1, b2, b3, b4, b5, b6, upd_at, upd_ne]; refine ⟨?_, ?_, ?_, ?_, ?_, ?_, ?_, ?_, ?_, ?_⟩ <;> assumption
  · (try simp (disch := decide) only [a, a0, a1, a2, a3, a4, a5, a6, b, b0, b1, b2, b3, b4, b5, b6, upd_at, upd_ne]); exact S4
  · (try simp (disch := decide) only [a, a0, a1, a2, a3, a4, a5, a6, b, b0, b1, b2, b3, b4, b5, b6, upd_at, upd_ne]); exact S5
  · (try simp (disch := decide) only [a, a0, a1, a2, a3, a4, a5, a6, b, b0, b1, b2, b3, b4, b5, b6, upd_at, upd_ne]); exact S6
  · (try simp (disch := decide) only [a, a0, a1, a2, a3, a4, a5, a6, b, b0, b1, b2, b3, b4, b5, b6, upd_at, upd_ne]); exact mr_Cm V W S7
  · (try simp (disch := decide) only [a, a0, a1, a2, a3, a4, a5, a6, b, b0, b1, b2, b3, b4, b5, b6, upd_at, upd_ne]); exact mr_Fm V (Nat.le_refl _) (Nat.le_refl _) (mr_Fa Q S8)
  · (try simp (disch := decide) only [a, a0, a1, a2, a3, a4, a5, a6, b, b0, b1, b2, b3, b4, b5, b6, upd_at, upd_ne]); intro f hf
    by_cases y : f = nf
    · subst y; rw [upd_at]; exact ⟨0, Nat.zero_le _, rfl⟩
    · rw [upd_ne y]; exact S9 f (by omega)
  · (try simp (disch := decide) only [a, a0, a1, a2, a3, a4, a5, a6, b, b0, b1, b2, b3, b4, b5, b6, upd_at, upd_ne]); exact mr_Wm V (by omega) S10
  · (try simp (disch := decide) only [a, a0, a1, a2, a3, a4, a5, a6, b, b0, b1, b2, b3, b4, b5, b6, upd_at, upd_ne]); exact S11
theorem rn_push {k x sb v x' se : Int32} (hw : nw < 400) (Q : (k = 5 ∧ ∃ c, c < nc ∧ v = nI c ∧ x' = nI c) ∨ (∃ y, x = nI y ∧ x' = nI (z + y) ∧ rn_V h0 nd nn hC hM nb ne y sb se ∧ ((k = 0 ∧ h0 26 y = 6) ∨ (k = 1 ∧ h0 26 y = 7) ∨ (k = 2 ∧ h0 26 y = 8) ∨ (k = 4 ∧ h0 26 y = 9)))) (h31 : nf < 10100) (S : rn_S h0 h1 z nd nn sz lim md hC hM nb ne nc nf np nw s cn cl) (a : ∀ q, q ≠ 68 ∧ q ≠ 69 ∧ q ≠ 70 ∧ q ≠ 71 ∧ q ≠ 67 ∧ q ≠ 46 → hC' q = hC q) (a0 : hC' 68 = upd (hC 68) nw k) (a1 : hC' 69 = upd (hC 69) nw x) (a2 : hC' 70 = upd (hC 70) nw sb) (a3 : hC' 71 = upd (hC 71) nw v) (a4 : hC' 67 = upd (hC 67) 0 (nI (nw + 1))) (a5 : hC' 46 = upd (hC 46) 5 (us_max (hC 46 5) (nI (nw + 1)))) (b : ∀ q, q ≠ 124 ∧ q ≠ 125 ∧ q ≠ 126 ∧ q ≠ 73 ∧ q ≠ 128 → hM' q = hM q) (b0 : hM' 124 = upd (hM 124) nw x') (b1 : hM' 125 = upd (hM 125) nw se) (b2 : hM' 126 = upd (hM 126) nw k) (b3 : hM' 73 = upd (hM 73) 71 (nI (nw + 1))) (b4 : hM' 128 = upd (hM 128) 5 (us_max (hM 128 5) (nI (nw + 1)))) : rn_S h0 h1 z nd nn sz lim md hC' hM' nb ne nc nf np (nw + 1) s cn cl := by
  obtain ⟨S1, S2, S3, S4, S5, S6, S7, S8, S9, S10, S11⟩ := S
  have V : ∀ x b e, rn_V h0 nd nn hC hM nb ne x b e → rn_V h0 nd nn hC' hM' nb ne x b e := rn_Vs (fun i hi => by rw [a _ (by decide)]) (fun i hi => by rw [a _ (by decide)]) (fun i hi => by rw [b _ (by decide)]) (fun i hi => by rw [b _ (by decide)]) (by omega) (by omega)
  have W : ∀ k c v, rn_W sz hC hM nb nf np k c v → rn_W sz hC' hM' nb nf np k c v := rn_Ws (fun i hi => by rw [a _ (by decide)]) (fun i hi => by rw [a _ (by decide)]) (fun i hi => by rw [b _ (by decide)]) (fun i hi => by rw [b _ (by decide)]) (by omega) (by omega) (by omega) (by omega)
  refine ⟨?_, ?_, rn_fm (fun c hc => a c (by omega)) (fun j hj => by rw [a _ (by decide)]) (fun c x y => b c (by omega)) (fun x hx => by rw [b3, upd_ne (by omega)]) S3, ?_, ?_, ?_, ?_, ?_, ?_, ?_, ?_⟩
  · obtain ⟨n1, n2, n3, n4, n5, n6, n7, n8, n9, n10⟩ := S1
    unfold rn_n; simp (disch := decide) only [a, a0, a1, a2, a3, a4, a5, b, b0, b1, b2, b3, b4, upd_at, upd_ne]; refine ⟨?_, ?_, ?_, ?_, ?_, ?_, ?_, ?_, ?_, ?_⟩ <;> first | assumption | trivial
  · obtain ⟨n1, n2, n3, n4, n5, n6, n7, n8, n9, n10⟩ := S2
    unfold rn_k; simp (disch := decide) only [a, a0, a1, a2, a3, a4, a5, b, b0, b1, b2, b3, b4, upd_at, upd_ne]; rw [n10]; refine ⟨?_, ?_, ?_, ?_, ?_, ?_, ?_, ?_, ?_, ?_⟩ <;> first | assumption | trivial
  · (try simp (disch := decide) only [a, a0, a1, a2, a3, a4, a5, b, b0, b1, b2, b3, b4, upd_at, upd_ne]); exact S4
  · (try simp (disch := decide) only [a, a0, a1, a2, a3, a4, a5, b, b0, b1, b2, b3, b4, upd_at, upd_ne]); exact S5
  · (try simp (disch := decide) only [a, a0, a1, a2, a3, a4, a5, b, b0, b1, b2, b3, b4, upd_at, upd_ne]); exact S6
  · (try simp (disch := decide) only [a, a0, a1, a2, a3, a4, a5, b, b0, b1, b2, b3, b4, upd_at, upd_ne]); exact mr_Cm V W S7
  · (try simp (disch := decide) only [a, a0, a1, a2, a3, a4, a5, b, b0, b1, b2, b3, b4, upd_at, upd_ne]); exact mr_Fm V (by omega) (by omega) S8
  · (try simp (disch := decide) only [a, a0, a1, a2, a3, a4, a5, b, b0, b1, b2, b3, b4, upd_at, upd_ne]); exact S9
  · (try simp (disch := decide) only [a, a0, a1, a2, a3, a4, a5, b, b0, b1, b2, b3, b4, upd_at, upd_ne]); exact mr_Wm V (Nat.le_refl _) (mr_Wp (fun _ _ => rfl) (by
    rcases Q with Q | ⟨y, q1, q2, q3, q4⟩
    · exact Or.inl Q
    · refine Or.inr ⟨y, q1, q2, q3, ?_⟩
      rcases q4 with q | q | q | q
      · exact Or.inl q
      · exact Or.inr (Or.inl q)
      · exact Or.inr (Or.inr (Or.inl q))
      · exact Or.inr (Or.inr (Or.inr (Or.inr q)))) S10)
  · (try simp (disch := decide) only [a, a0, a1, a2, a3, a4, a5, b, b0, b1, b2, b3, b4, upd_at, upd_ne]); obtain ⟨q, q1, q2, q3⟩ := S11
    rw [q3, nd_max (by omega) (by omega)]
    exact ⟨max q (nw + 1), by omega, by omega, rfl⟩
/-- what waits last is taken off -/
theorem rn_pop (S : rn_S h0 h1 z nd nn sz lim md hC hM nb ne nc nf np (nw + 1) s cn cl) (a : ∀ q, q ≠ 67 → hC' q = hC q) (a0 : hC' 67 = upd (hC 67) 0 (nI nw)) (b : ∀ q, q ≠ 73 → hM' q = hM q) (b0 : hM' 73 = upd (hM 73) 71 (nI nw)) : rn_S h0 h1 z nd nn sz lim md hC' hM' nb ne nc nf np nw s cn cl := by
  obtain ⟨S1, S2, S3, S4, S5, S6, S7, S8, S9, S10, S11⟩ := S
  refine ⟨?_, ?_, rn_fm (fun c hc => a c (by omega)) (fun j hj => by rw [a _ (by decide)]) (fun c x y => b c (by omega)) (fun x hx => by rw [b0, upd_ne (by omega)]) S3, ?_, ?_, ?_, ?_, ?_, ?_, ?_, ?_⟩
  · obtain ⟨n1, n2, n3, n4, n5, n6, n7, n8, n9, n10⟩ := S1
    unfold rn_n; simp (disch := decide) only [a, a0, b, b0, upd_at, upd_ne]; refine ⟨?_, ?_, ?_, ?_, ?_, ?_, ?_, ?_, ?_, ?_⟩ <;> first | assumption | trivial
  · unfold rn_k at S2 ⊢; simp (disch := decide) only [a, b]; exact S2
  · simp (disch := decide) only [a, b]; exact S4
  · simp (disch := decide) only [a]; exact S5
  · simp (disch := decide) only [a, b]; exact S6
  · unfold rn_V rn_W at S7 ⊢; simp (disch := decide) only [a, b]; exact S7
  · unfold rn_V at S8 ⊢; simp (disch := decide) only [a, b]; exact S8
  · simp (disch := decide) only [a]; exact S9
  · unfold rn_V at S10 ⊢; simp (disch := decide) only [a, b]; exact mr_Wl (Nat.le_succ _) S10
  · obtain ⟨q, q1, q2, q3⟩ := S11
    simp (disch := decide) only [a]; exact ⟨q, by omega, q2, q3⟩

theorem rn_step  (h31 : nf < 10100) (S : rn_S h0 h1 z nd nn sz lim md hC hM nb ne nc nf np nw s cn cl) (a : ∀ q, q ≠ 46 → hC' q = hC q) (a0 : hC' 46 = upd (hC 46) 0 (hC 46 0 + 1)) (b : ∀ q, q ≠ 128 → hM' q = hM q) (b0 : hM' 128 = upd (hM 128) 0 (hM 128 0 + 1)) : rn_S h0 h1 z nd nn sz lim md hC' hM' nb ne nc nf np nw (s + 1) cn cl := by
  obtain ⟨S1, S2, S3, S4, S5, S6, S7, S8, S9, S10, S11⟩ := S
  have V : ∀ x b e, rn_V h0 nd nn hC hM nb ne x b e → rn_V h0 nd nn hC' hM' nb ne x b e := rn_Vs (fun i hi => by rw [a _ (by decide)]) (fun i hi => by rw [a _ (by decide)]) (fun i hi => by rw [b _ (by decide)]) (fun i hi => by rw [b _ (by decide)]) (by omega) (by omega)
  have W : ∀ k c v, rn_W sz hC hM nb nf np k c v → rn_W sz hC' hM' nb nf np k c v := rn_Ws (fun i hi => by rw [a _ (by decide)]) (fun i hi => by rw [a _ (by decide)]) (fun i hi => by rw [b _ (by decide)]) (fun i hi => by rw [b _ (by decide)]) (by omega) (by omega) (by omega) (by omega)
  refine ⟨?_, ?_, rn_fm (fun c hc => a c (by omega)) (fun j hj => by rw [a _ (by decide)]) (fun c x y => b c (by omega)) (fun x hx => by rw [b _ (by decide)]) S3, ?_, ?_, ?_, ?_, ?_, ?_, ?_, ?_⟩
  · obtain ⟨n1, n2, n3, n4, n5, n6, n7, n8, n9, n10⟩ := S1
    unfold rn_n; simp (disch := decide) only [a, a0, b, b0, upd_at, upd_ne]; refine ⟨?_, ?_, ?_, ?_, ?_, ?_, ?_, ?_, ?_, ?_⟩ <;> first | assumption | trivial
  · obtain ⟨n1, n2, n3, n4, n5, n6, n7, n8, n9, n10⟩ := S2
    unfold rn_k; simp (disch := decide) only [a, a0, b, b0, upd_at, upd_ne]; rw [n1, n2, nI_1]; refine ⟨?_, ?_, ?_, ?_, ?_, ?_, ?_, ?_, ?_, ?_⟩ <;> first | assumption | trivial
  · (try simp (disch := decide) only [a, a0, b, b0, upd_at, upd_ne]); exact S4
  · (try simp (disch := decide) only [a, a0, b, b0, upd_at, upd_ne]); exact S5
  · (try simp (disch := decide) only [a, a0, b, b0, upd_at, upd_ne]); exact S6
  · (try simp (disch := decide) only [a, a0, b, b0, upd_at, upd_ne]); exact mr_Cm V W S7
  · (try simp (disch := decide) only [a, a0, b, b0, upd_at, upd_ne]); exact mr_Fm V (by omega) (by omega) S8
  · (try simp (disch := decide) only [a, a0, b, b0, upd_at, upd_ne]); exact S9
  · (try simp (disch := decide) only [a, a0, b, b0, upd_at, upd_ne]); exact mr_Wm V (by omega) S10
  · (try simp (disch := decide) only [a, a0, b, b0, upd_at, upd_ne]); exact S11
theorem rn_inc3  (h31 : nf < 10100) (S : rn_S h0 h1 z nd nn sz lim md hC hM nb ne nc nf np nw s cn cl) (a : ∀ q, q ≠ 46 → hC' q = hC q) (a0 : hC' 46 = upd (hC 46) 3 (hC 46 3 + 1)) (b : ∀ q, q ≠ 128 → hM' q = hM q) (b0 : hM' 128 = upd (hM 128) 3 (hM 128 3 + 1)) : rn_S h0 h1 z nd nn sz lim md hC' hM' nb ne nc nf np nw s cn cl := by
  obtain ⟨S1, S2, S3, S4, S5, S6, S7, S8, S9, S10, S11⟩ := S
  have V : ∀ x b e, rn_V h0 nd nn hC hM nb ne x b e → rn_V h0 nd nn hC' hM' nb ne x b e := rn_Vs (fun i hi => by rw [a _ (by decide)]) (fun i hi => by rw [a _ (by decide)]) (fun i hi => by rw [b _ (by decide)]) (fun i hi => by rw [b _ (by decide)]) (by omega) (by omega)
  have W : ∀ k c v, rn_W sz hC hM nb nf np k c v → rn_W sz hC' hM' nb nf np k c v := rn_Ws (fun i hi => by rw [a _ (by decide)]) (fun i hi => by rw [a _ (by decide)]) (fun i hi => by rw [b _ (by decide)]) (fun i hi => by rw [b _ (by decide)]) (by omega) (by omega) (by omega) (by omega)
  refine ⟨?_, ?_, rn_fm (fun c hc => a c (by omega)) (fun j hj => by rw [a _ (by decide)]) (fun c x y => b c (by omega)) (fun x hx => by rw [b _ (by decide)]) S3, ?_, ?_, ?_, ?_, ?_, ?_, ?_, ?_⟩
  · obtain ⟨n1, n2, n3, n4, n5, n6, n7, n8, n9, n10⟩ := S1
    unfold rn_n; simp (disch := decide) only [a, a0, b, b0, upd_at, upd_ne]; refine ⟨?_, ?_, ?_, ?_, ?_, ?_, ?_, ?_, ?_, ?_⟩ <;> first | assumption | trivial
  · obtain ⟨n1, n2, n3, n4, n5, n6, n7, n8, n9, n10⟩ := S2
    unfold rn_k; simp (disch := decide) only [a, a0, b, b0, upd_at, upd_ne]; rw [n8]; refine ⟨?_, ?_, ?_, ?_, ?_, ?_, ?_, ?_, ?_, ?_⟩ <;> first | assumption | trivial
  · (try simp (disch := decide) only [a, a0, b, b0, upd_at, upd_ne]); exact S4
  · (try simp (disch := decide) only [a, a0, b, b0, upd_at, upd_ne]); exact S5
  · (try simp (disch := decide) only [a, a0, b, b0, upd_at, upd_ne]); exact S6
  · (try simp (disch := decide) only [a, a0, b, b0, upd_at, upd_ne]); exact mr_Cm V W S7
  · (try simp (disch := decide) only [a, a0, b, b0, upd_at, upd_ne]); exact mr_Fm V (by omega) (by omega) S8
  · (try simp (disch := decide) only [a, a0, b, b0, upd_at, upd_ne]); exact S9
  · (try simp (disch := decide) only [a, a0, b, b0, upd_at, upd_ne]); exact mr_Wm V (by omega) S10
  · (try simp (disch := decide) only [a, a0, b, b0, upd_at, upd_ne]); exact S11
theorem rn_keep {c : Nat} {kd dv rv : Int32} (hc : c < nc) (hW : rn_W sz hC hM nb nf np kd dv rv) (h31 : nf < 10100) (S : rn_S h0 h1 z nd nn sz lim md hC hM nb ne nc nf np nw s cn cl) (a : ∀ q, q ≠ 57 ∧ q ≠ 58 ∧ q ≠ 46 → hC' q = hC q) (a0 : hC' 57 = upd (hC 57) c kd) (a1 : hC' 58 = upd (hC 58) c dv) (a2 : hC' 46 = upd (hC 46) 4 (hC 46 4 + 1)) (b : ∀ q, q ≠ 107 ∧ q ≠ 108 ∧ q ≠ 128 → hM' q = hM q) (b0 : hM' 107 = upd (hM 107) c kd) (b1 : hM' 108 = upd (hM 108) c rv) (b2 : hM' 128 = upd (hM 128) 4 (hM 128 4 + 1)) : rn_S h0 h1 z nd nn sz lim md hC' hM' nb ne nc nf np nw s cn cl := by
  obtain ⟨S1, S2, S3, S4, S5, S6, S7, S8, S9, S10, S11⟩ := S
  have V : ∀ x b e, rn_V h0 nd nn hC hM nb ne x b e → rn_V h0 nd nn hC' hM' nb ne x b e := rn_Vs (fun i hi => by rw [a _ (by decide)]) (fun i hi => by rw [a _ (by decide)]) (fun i hi => by rw [b _ (by decide)]) (fun i hi => by rw [b _ (by decide)]) (by omega) (by omega)
  have W : ∀ k c v, rn_W sz hC hM nb nf np k c v → rn_W sz hC' hM' nb nf np k c v := rn_Ws (fun i hi => by rw [a _ (by decide)]) (fun i hi => by rw [a _ (by decide)]) (fun i hi => by rw [b _ (by decide)]) (fun i hi => by rw [b _ (by decide)]) (by omega) (by omega) (by omega) (by omega)
  refine ⟨?_, ?_, rn_fm (fun c hc => a c (by omega)) (fun j hj => by rw [a _ (by decide)]) (fun c x y => b c (by omega)) (fun x hx => by rw [b _ (by decide)]) S3, ?_, ?_, ?_, ?_, ?_, ?_, ?_, ?_⟩
  · obtain ⟨n1, n2, n3, n4, n5, n6, n7, n8, n9, n10⟩ := S1
    unfold rn_n; simp (disch := decide) only [a, a0, a1, a2, b, b0, b1, b2, upd_at, upd_ne]; refine ⟨?_, ?_, ?_, ?_, ?_, ?_, ?_, ?_, ?_, ?_⟩ <;> first | assumption | trivial
  · obtain ⟨n1, n2, n3, n4, n5, n6, n7, n8, n9, n10⟩ := S2
    unfold rn_k; simp (disch := decide) only [a, a0, a1, a2, b, b0, b1, b2, upd_at, upd_ne]; rw [n9]; refine ⟨?_, ?_, ?_, ?_, ?_, ?_, ?_, ?_, ?_, ?_⟩ <;> first | assumption | trivial
  · (try simp (disch := decide) only [a, a0, a1, a2, b, b0, b1, b2, upd_at, upd_ne]); exact S4
  · (try simp (disch := decide) only [a, a0, a1, a2, b, b0, b1, b2, upd_at, upd_ne]); exact S5
  · (try simp (disch := decide) only [a, a0, a1, a2, b, b0, b1, b2, upd_at, upd_ne]); exact S6
  · (try simp (disch := decide) only [a, a0, a1, a2, b, b0, b1, b2, upd_at, upd_ne]); intro i hi
    obtain ⟨q1, q2, q3⟩ := mr_Cm V W S7 i hi
    by_cases y : i = c
    · subst y
      simp only [upd_at]
      exact ⟨trivial, q2, Or.inr (W _ _ _ hW)⟩
    · simp only [upd_ne y]
      exact ⟨q1, q2, q3⟩
  · (try simp (disch := decide) only [a, a0, a1, a2, b, b0, b1, b2, upd_at, upd_ne]); exact mr_Fm V (by omega) (by omega) S8
  · (try simp (disch := decide) only [a, a0, a1, a2, b, b0, b1, b2, upd_at, upd_ne]); exact S9
  · (try simp (disch := decide) only [a, a0, a1, a2, b, b0, b1, b2, upd_at, upd_ne]); exact mr_Wm V (by omega) S10
  · (try simp (disch := decide) only [a, a0, a1, a2, b, b0, b1, b2, upd_at, upd_ne]); exact S11
theorem rn_need {x : Nat} {N' D' : Nat → Int32} (hN : nd_R nb (cn + 1) cl (-1) (hC 49) (hC 51) (upd (hC 53) x (hC 53 x + 1)) N' (hC 47) D') (h31 : nf < 10100) (S : rn_S h0 h1 z nd nn sz lim md hC hM nb ne nc nf np nw s cn cl) (a : ∀ q, q ≠ 53 ∧ q ≠ 46 → hC' q = hC q) (a0 : hC' 53 = upd (hC 53) x (hC 53 x + 1)) (a1 : hC' 46 = upd (hC 46) 1 (hC 46 1 + 1)) (b : ∀ q, q ≠ 113 ∧ q ≠ 127 ∧ q ≠ 128 → hM' q = hM q) (b0 : hM' 113 = N') (b1 : hM' 127 = D') (b2 : hM' 128 = upd (hM 128) 1 (hM 128 1 + 1)) : rn_S h0 h1 z nd nn sz lim md hC' hM' nb ne nc nf np nw s (cn + 1) cl := by
  obtain ⟨S1, S2, S3, S4, S5, S6, S7, S8, S9, S10, S11⟩ := S
  have V : ∀ x b e, rn_V h0 nd nn hC hM nb ne x b e → rn_V h0 nd nn hC' hM' nb ne x b e := rn_Vs (fun i hi => by rw [a _ (by decide)]) (fun i hi => by rw [a _ (by decide)]) (fun i hi => by rw [b _ (by decide)]) (fun i hi => by rw [b _ (by decide)]) (by omega) (by omega)
  have W : ∀ k c v, rn_W sz hC hM nb nf np k c v → rn_W sz hC' hM' nb nf np k c v := rn_Ws (fun i hi => by rw [a _ (by decide)]) (fun i hi => by rw [a _ (by decide)]) (fun i hi => by rw [b _ (by decide)]) (fun i hi => by rw [b _ (by decide)]) (by omega) (by omega) (by omega) (by omega)
  refine ⟨?_, ?_, rn_fm (fun c hc => a c (by omega)) (fun j hj => by rw [a _ (by decide)]) (fun c x y => b c (by omega)) (fun x hx => by rw [b _ (by decide)]) S3, ?_, ?_, ?_, ?_, ?_, ?_, ?_, ?_⟩
  · obtain ⟨n1, n2, n3, n4, n5, n6, n7, n8, n9, n10⟩ := S1
    unfold rn_n; simp (disch := decide) only [a, a0, a1, b, b0, b1, b2, upd_at, upd_ne]; refine ⟨?_, ?_, ?_, ?_, ?_, ?_, ?_, ?_, ?_, ?_⟩ <;> first | assumption | trivial
  · obtain ⟨n1, n2, n3, n4, n5, n6, n7, n8, n9, n10⟩ := S2
    unfold rn_k; simp (disch := decide) only [a, a0, a1, b, b0, b1, b2, upd_at, upd_ne]; rw [n3, n4, nI_1]; refine ⟨?_, ?_, ?_, ?_, ?_, ?_, ?_, ?_, ?_, ?_⟩ <;> first | assumption | trivial
  · (try simp (disch := decide) only [a, a0, a1, b, b0, b1, b2, upd_at, upd_ne]); exact S4
  · (try simp (disch := decide) only [a, a0, a1, b, b0, b1, b2, upd_at, upd_ne]); exact S5
  · (try simp (disch := decide) only [a, a0, a1, b, b0, b1, b2, upd_at, upd_ne]); exact hN
  · (try simp (disch := decide) only [a, a0, a1, b, b0, b1, b2, upd_at, upd_ne]); exact mr_Cm V W S7
  · (try simp (disch := decide) only [a, a0, a1, b, b0, b1, b2, upd_at, upd_ne]); exact mr_Fm V (by omega) (by omega) S8
  · (try simp (disch := decide) only [a, a0, a1, b, b0, b1, b2, upd_at, upd_ne]); exact S9
  · (try simp (disch := decide) only [a, a0, a1, b, b0, b1, b2, upd_at, upd_ne]); exact mr_Wm V (by omega) S10
  · (try simp (disch := decide) only [a, a0, a1, b, b0, b1, b2, upd_at, upd_ne]); exact S11
theorem rn_call {f t v : Nat} (hf : f < nf) (hv : hC 66 f = nI v) (hv2 : v ≤ cl) (ht : t < 200) (hk : h0 23 t = 4) (hc : cn + cl + 1 < 2 ^ 31) (hm : hM 118 f = hC 66 f) (h31 : nf < 10100) (S : rn_S h0 h1 z nd nn sz lim md hC hM nb ne nc nf np nw s cn cl) (a : ∀ q, q ≠ 66 ∧ q ≠ 47 ∧ q ≠ 46 → hC' q = hC q) (a0 : hC' 66 = upd (hC 66) f (nI (v + 1))) (a1 : hC' 47 = upd (hC 47) t (us_max (hC 47 t) (nI (v + 1)))) (a2 : hC' 46 = upd (hC 46) 6 (hC 46 6 + 1)) (b : ∀ q, q ≠ 118 ∧ q ≠ 127 ∧ q ≠ 128 → hM' q = hM q) (b0 : hM' 118 = upd (hM 118) f (nI (v + 1))) (b1 : hM' 127 = upd (hM 127) t (us_max (hM 127 t) (nI (v + 1)))) (b2 : hM' 128 = upd (hM 128) 6 (hM 128 6 + 1)) : rn_S h0 h1 z nd nn sz lim md hC' hM' nb ne nc nf np nw s cn (cl + 1) := by
  obtain ⟨S1, S2, S3, S4, S5, S6, S7, S8, S9, S10, S11⟩ := S
  have V : ∀ x b e, rn_V h0 nd nn hC hM nb ne x b e → rn_V h0 nd nn hC' hM' nb ne x b e := rn_Vs (fun i hi => by rw [a _ (by decide)]) (fun i hi => by rw [a _ (by decide)]) (fun i hi => by rw [b _ (by decide)]) (fun i hi => by rw [b _ (by decide)]) (by omega) (by omega)
  have W : ∀ k c v, rn_W sz hC hM nb nf np k c v → rn_W sz hC' hM' nb nf np k c v := rn_Ws (fun i hi => by rw [a _ (by decide)]) (fun i hi => by rw [a _ (by decide)]) (fun i hi => by rw [b _ (by decide)]) (fun i hi => by rw [b _ (by decide)]) (by omega) (by omega) (by omega) (by omega)
  refine ⟨?_, ?_, rn_fm (fun c hc => a c (by omega)) (fun j hj => by rw [a _ (by decide)]) (fun c x y => b c (by omega)) (fun x hx => by rw [b _ (by decide)]) S3, ?_, ?_, ?_, ?_, ?_, ?_, ?_, ?_⟩
  · obtain ⟨n1, n2, n3, n4, n5, n6, n7, n8, n9, n10⟩ := S1
    unfold rn_n; simp (disch := decide) only [a, a0, a1, a2, b, b0, b1, b2, upd_at, upd_ne]; refine ⟨?_, ?_, ?_, ?_, ?_, ?_, ?_, ?_, ?_, ?_⟩ <;> first | assumption | trivial
  · obtain ⟨n1, n2, n3, n4, n5, n6, n7, n8, n9, n10⟩ := S2
    unfold rn_k; simp (disch := decide) only [a, a0, a1, a2, b, b0, b1, b2, upd_at, upd_ne]; rw [n5, n6, nI_1]; refine ⟨?_, ?_, ?_, ?_, ?_, ?_, ?_, ?_, ?_, ?_⟩ <;> first | assumption | trivial
  · (try simp (disch := decide) only [a, a0, a1, a2, b, b0, b1, b2, upd_at, upd_ne]); exact S4
  · (try simp (disch := decide) only [a, a0, a1, a2, b, b0, b1, b2, upd_at, upd_ne]); exact S5
  · (try simp (disch := decide) only [a, a0, a1, a2, b, b0, b1, b2, upd_at, upd_ne]); exact nd_call (fun b hb e => S5 b hb t ht e hk) (by omega) hc ht S6
  · (try simp (disch := decide) only [a, a0, a1, a2, b, b0, b1, b2, upd_at, upd_ne]); exact mr_Cm V W S7
  · (try simp (disch := decide) only [a, a0, a1, a2, b, b0, b1, b2, upd_at, upd_ne]); intro i hi
    rcases mr_Fm V (Nat.le_refl _) (Nat.le_refl _) S8 i hi with ⟨q1, q2, q3⟩ | q
    · refine Or.inl ⟨q1, ?_, q3⟩
      by_cases y : i = f
      · subst y; rw [upd_at, upd_at]
      · rw [upd_ne y, upd_ne y]; exact q2
    · exact Or.inr q
  · (try simp (disch := decide) only [a, a0, a1, a2, b, b0, b1, b2, upd_at, upd_ne]); intro i hi
    by_cases y : i = f
    · subst y; rw [upd_at]; exact ⟨v + 1, by omega, rfl⟩
    · rw [upd_ne y]
      obtain ⟨q, q1, q2⟩ := S9 i hi
      exact ⟨q, by omega, q2⟩
  · (try simp (disch := decide) only [a, a0, a1, a2, b, b0, b1, b2, upd_at, upd_ne]); exact mr_Wm V (by omega) S10
  · (try simp (disch := decide) only [a, a0, a1, a2, b, b0, b1, b2, upd_at, upd_ne]); exact S11
theorem rn_pair {p q : Int32} (h31 : nf < 10100) (S : rn_S h0 h1 z nd nn sz lim md hC hM nb ne nc nf np nw s cn cl) (b : ∀ q, q ≠ 122 ∧ q ≠ 123 ∧ q ≠ 73 → hM' q = hM q) (b0 : hM' 122 = upd (hM 122) np p) (b1 : hM' 123 = upd (hM 123) np q) (b2 : hM' 73 = upd (hM 73) 67 (nI (np + 1))) : rn_S h0 h1 z nd nn sz lim md hC hM' nb ne nc nf (np + 1) nw s cn cl := by
  obtain ⟨S1, S2, S3, S4, S5, S6, S7, S8, S9, S10, S11⟩ := S
  have V : ∀ x b e, rn_V h0 nd nn hC hM nb ne x b e → rn_V h0 nd nn hC hM' nb ne x b e := rn_Vs (fun i hi => rfl) (fun i hi => rfl) (fun i hi => by rw [b _ (by decide)]) (fun i hi => by rw [b _ (by decide)]) (by omega) (by omega)
  have W : ∀ k c v, rn_W sz hC hM nb nf np k c v → rn_W sz hC hM' nb nf (np + 1) k c v := rn_Ws (fun i hi => rfl) (fun i hi => rfl) (fun i hi => by rw [b0, upd_ne (by omega)]) (fun i hi => by rw [b1, upd_ne (by omega)]) (by omega) (by omega) (by omega) (by omega)
  refine ⟨?_, ?_, rn_fm (fun _ _ => rfl) (fun _ _ => rfl) (fun c x y => b c (by omega)) (fun x hx => by rw [b2, upd_ne (by omega)]) S3, ?_, ?_, ?_, ?_, ?_, ?_, ?_, ?_⟩
  · obtain ⟨n1, n2, n3, n4, n5, n6, n7, n8, n9, n10⟩ := S1
    unfold rn_n; simp (disch := decide) only [b, b0, b1, b2, upd_at, upd_ne]; refine ⟨?_, ?_, ?_, ?_, ?_, ?_, ?_, ?_, ?_, ?_⟩ <;> first | assumption | trivial
  · obtain ⟨n1, n2, n3, n4, n5, n6, n7, n8, n9, n10⟩ := S2
    unfold rn_k; simp (disch := decide) only [b, b0, b1, b2, upd_at, upd_ne]; refine ⟨?_, ?_, ?_, ?_, ?_, ?_, ?_, ?_, ?_, ?_⟩ <;> assumption
  · (try simp (disch := decide) only [b, b0, b1, b2, upd_at, upd_ne]); exact S4
  · (try simp (disch := decide) only [b, b0, b1, b2, upd_at, upd_ne]); exact S5
  · (try simp (disch := decide) only [b, b0, b1, b2, upd_at, upd_ne]); exact S6
  · (try simp (disch := decide) only [b, b0, b1, b2, upd_at, upd_ne]); exact mr_Cm V W S7
  · (try simp (disch := decide) only [b, b0, b1, b2, upd_at, upd_ne]); exact mr_Fm V (by omega) (by omega) S8
  · (try simp (disch := decide) only [b, b0, b1, b2, upd_at, upd_ne]); exact S9
  · (try simp (disch := decide) only [b, b0, b1, b2, upd_at, upd_ne]); exact mr_Wm V (by omega) S10
  · (try simp (disch := decide) only [b, b0, b1, b2, upd_at, upd_ne]); exact S11
/-- the left side is there: its OPERATOR waits for the right one, at the same place -/
theorem rn_right {y : Nat} {sb se v : Int32} (h31 : nf < 10100) (S : rn_S h0 h1 z nd nn sz lim md hC hM nb ne nc nf np (nw + 1) s cn cl) (hV : rn_V h0 nd nn hC hM nb ne y sb se) (hK : h0 26 y = 8) (a : ∀ q, q ≠ 68 ∧ q ≠ 69 ∧ q ≠ 70 ∧ q ≠ 71 ∧ q ≠ 67 → hC' q = hC q) (a0 : hC' 68 = upd (hC 68) nw 3) (a1 : hC' 69 = upd (hC 69) nw (nI y)) (a2 : hC' 70 = upd (hC 70) nw sb) (a3 : hC' 71 = upd (hC 71) nw v) (a4 : hC' 67 0 = nI (nw + 1)) (b : ∀ q, q ≠ 73 ∧ q ≠ 124 ∧ q ≠ 125 ∧ q ≠ 126 ∧ q ≠ 129 ∧ q ≠ 128 → hM' q = hM q) (b0 : hM' 124 = upd (hM 124) nw (nI (z + y))) (b1 : hM' 125 = upd (hM 125) nw se) (b2 : hM' 126 = upd (hM 126) nw 3) (b3 : ∀ j, j ≠ 71 → hM' 73 j = hM 73 j) (b4 : hM' 73 71 = nI (nw + 1)) (b5 : hM' 129 = upd (hM 129) nw v) (b6 : hM' 128 = upd (hM 128) 5 (us_max (hM 128 5) (nI (nw + 1)))) : rn_S h0 h1 z nd nn sz lim md hC' hM' nb ne nc nf np (nw + 1) s cn cl := by
  obtain ⟨S1, S2, S3, S4, S5, S6, S7, S8, S9, S10, S11⟩ := S
  have V : ∀ x b e, rn_V h0 nd nn hC hM nb ne x b e → rn_V h0 nd nn hC' hM' nb ne x b e := rn_Vs (fun i _ => by rw [a _ (by decide)]) (fun i _ => by rw [a _ (by decide)]) (fun i _ => by rw [b _ (by decide)]) (fun i _ => by rw [b _ (by decide)]) (Nat.le_refl _) (Nat.le_refl _)
  have W : ∀ k c v, rn_W sz hC hM nb nf np k c v → rn_W sz hC' hM' nb nf np k c v := rn_Ws (fun i _ => by rw [a _ (by decide)]) (fun i _ => by rw [a _ (by decide)]) (fun i _ => by rw [b _ (by decide)]) (fun i _ => by rw [b _ (by decide)]) (Nat.le_refl _) (Nat.le_refl _) (Nat.le_refl _) (by omega)
  obtain ⟨q, q1, q2, q3⟩ := S11
  refine ⟨?_, ?_, rn_fm (fun c hc => a c (by omega)) (fun j hj => by rw [a _ (by decide)]) (fun c x y => b c (by omega)) (fun x hx => b3 x (by omega)) S3, ?_, ?_, ?_, ?_, ?_, ?_, ?_, ?_⟩
  · obtain ⟨n1, n2, n3, n4, n5, n6, n7, n8, n9, n10⟩ := S1
    unfold rn_n; simp (disch := decide) only [a, a4, b3, b4]; refine ⟨?_, ?_, ?_, ?_, ?_, ?_, ?_, ?_, ?_, ?_⟩ <;> first | assumption | trivial
  · obtain ⟨n1, n2, n3, n4, n5, n6, n7, n8, n9, n10⟩ := S2
    have e : us_max (hM 128 5) (nI (nw + 1)) = hM 128 5 := by rw [n10, q3, nd_max (by omega) (by omega), Nat.max_eq_left (by omega)]
    unfold rn_k; simp (disch := decide) only [a, b6, e, upd_at, upd_ne]; refine ⟨?_, ?_, ?_, ?_, ?_, ?_, ?_, ?_, ?_, ?_⟩ <;> first | assumption | trivial
  · simp (disch := decide) only [a, b]; exact S4
  · simp (disch := decide) only [a]; exact S5
  · simp (disch := decide) only [a, b]; exact S6
  · simp (disch := decide) only [a, b]; exact mr_Cm V W S7
  · simp (disch := decide) only [a, b]; exact mr_Fm V (Nat.le_refl _) (Nat.le_refl _) S8
  · simp (disch := decide) only [a]; exact S9
  · rw [a0, a1, a2, a3, b0, b1, b2, b5]
    exact mr_Wm V (Nat.le_refl _) (mr_Wp (LO := hM 129) (fun w hw => upd_ne (by omega)) (Or.inr ⟨y, rfl, rfl, hV, Or.inr (Or.inr (Or.inr (Or.inl ⟨rfl, hK, upd_at _ _ _⟩)))⟩) (mr_Wl (Nat.le_succ _) S10))
  · simp (disch := decide) only [a]; exact ⟨q, q1, q2, q3⟩
end RN
