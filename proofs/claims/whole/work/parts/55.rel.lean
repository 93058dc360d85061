/-! the two machines of a RUN, side by side -/
/-- a scope of the class and an env of the reference: the same bindings, of the THINGS X -/
def sr_X (T O EB EU : Nat → Int32) (B E : Nat) : List Nat → Int32 → Int32 → Prop
  | [], b, e => b = -1 ∧ e = -1
  | t :: X, b, e => ∃ i j, i < B ∧ j < E ∧ b = nI i ∧ e = nI j ∧ T i = nI t ∧ EB j = nI i ∧ sr_X T O EB EU B E X (O i) (EU j)
/-- below the number of THINGS -/
def sr_c (h0 : Nat → Nat → Int32) (c : Nat) : Prop := ∃ q, h0 17 1 = nI q ∧ c ≤ q ∧ q ≤ 200
theorem sr_c2 {h0 : Nat → Nat → Int32} {c : Nat} (h : sr_c h0 c) : c ≤ 200 := by
  obtain ⟨q, _, h1, h2⟩ := h
  omega
theorem sr_cm {h0 : Nat → Nat → Int32} {c c' : Nat} (e : c' ≤ c) (h : sr_c h0 c) : sr_c h0 c' := by
  obtain ⟨q, h0, h1, h2⟩ := h
  exact ⟨q, h0, by omega, h2⟩
/-- a NODE with what its NAMES are bound to -/
def sr_E (h0 : Nat → Nat → Int32) (nd nn : Nat) (T O EB EU : Nat → Int32) (B E : Nat) (x : Nat) (b e : Int32) : Prop := ∃ n f g s a c G X, wf_N (h0 26) (h0 27) (h0 28) (h0 29) (h0 30) nd n f g x s a c G ∧ x < nn ∧ sr_c h0 c ∧ sr_X T O EB EU B E X b e ∧ (∀ t ∈ G, t ∈ X) ∧ X.length ≤ a ∧ (∀ t ∈ X, t < a)
def sr_V (PF PS : Nat → Int32) (nb nf np : Nat) (kd c v : Int32) : Prop := (kd = 0 ∧ c = v) ∨ (kd = 1 ∧ ∃ f, f < nf ∧ c = nI f ∧ v = nI f) ∨ (kd = 2 ∧ ∃ b p, b + 1 < nb ∧ p < np ∧ c = nI b ∧ v = nI p ∧ PF p = nI b ∧ PS p = nI (b + 1))
/-- -1 or a number below n -/
def sr_o (n : Nat) (v : Int32) : Prop := v = -1 ∨ ∃ i, i < n ∧ v = nI i
theorem sr_oL {n m : Nat} {v : Int32} (h : n ≤ m) (o : sr_o n v) : sr_o m v := by
  rcases o with o | ⟨i, h1, h2⟩
  · exact Or.inl o
  · exact Or.inr ⟨i, by omega, h2⟩
theorem sr_Xm {T O EB EU T' O' EB' EU' : Nat → Int32} {B E B' E' : Nat} (h1 : ∀ i, i < B → T' i = T i ∧ O' i = O i) (h2 : ∀ i, i < E → EB' i = EB i ∧ EU' i = EU i) (hB : B ≤ B') (hE : E ≤ E') : ∀ {X : List Nat} {b e : Int32}, sr_X T O EB EU B E X b e → sr_X T' O' EB' EU' B' E' X b e
  | [], _, _, h => h
  | t :: X, b, e, ⟨i, j, a1, a2, a3, a4, a5, a6, a7⟩ => ⟨i, j, by omega, by omega, a3, a4, (h1 i a1).1.trans a5, (h2 j a2).1.trans a6, by rw [(h1 i a1).2, (h2 j a2).2]; exact sr_Xm h1 h2 hB hE a7⟩
theorem sr_Em {h0 : Nat → Nat → Int32} {nd nn : Nat} {T O EB EU T' O' EB' EU' : Nat → Int32} {B E B' E' : Nat} (h1 : ∀ i, i < B → T' i = T i ∧ O' i = O i) (h2 : ∀ i, i < E → EB' i = EB i ∧ EU' i = EU i) (hB : B ≤ B') (hE : E ≤ E') {x : Nat} {b e : Int32} : sr_E h0 nd nn T O EB EU B E x b e → sr_E h0 nd nn T' O' EB' EU' B' E' x b e := by
  rintro ⟨n, f, g, s, a, c, G, X, w, w1, w2, w3, w4⟩
  exact ⟨n, f, g, s, a, c, G, X, w, w1, w2, sr_Xm h1 h2 hB hE w3, w4⟩
theorem sr_Vm {PF PS PF' PS' : Nat → Int32} {nb nf np nb' nf' np' : Nat} (h1 : ∀ i, i < np → PF' i = PF i ∧ PS' i = PS i) (hb : nb ≤ nb') (hf : nf ≤ nf') (hp : np ≤ np') {kd c v : Int32} : sr_V PF PS nb nf np kd c v → sr_V PF' PS' nb' nf' np' kd c v := by
  rintro (h | ⟨h, f, a, b, c⟩ | ⟨h, b, p, a1, a2, a3, a4, a5, a6⟩)
  · exact Or.inl h
  · exact Or.inr (Or.inl ⟨h, f, by omega, b, c⟩)
  · exact Or.inr (Or.inr ⟨h, b, p, by omega, by omega, a3, a4, (h1 p a2).1.trans a5, (h1 p a2).2.trans a6⟩)
/-- the parts -/
def mr_B (nb nc : Nat) (T C F T' C' F' : Nat → Int32) : Prop := ∀ b, b < nb → T' b = T b ∧ C' b = C b ∧ F' b = F b ∧ sr_o 200 (T b) ∧ sr_o nc (C b) ∧ sr_o b (F b)
/-- V (x, b, e) a NODE with a scope and an env; W (kind, datum, value) a value -/
def mr_Ce (z nc : Nat) (V : Nat → Int32 → Int32 → Prop) (W : Int32 → Int32 → Int32 → Prop) (N S HK D KP N' S' HK' D' KP' : Nat → Int32) : Prop := ∀ c, c < nc → HK' c = HK c ∧ KP' c = KP c ∧ ((HK c = -1 ∧ ∃ x, N c = nI x ∧ N' c = nI (z + x) ∧ V x (S c) (S' c)) ∨ W (HK c) (D c) (D' c))
def mr_Fu (h0 : Nat → Nat → Int32) (z nd nb nc nf : Nat) (sz : Nat → Nat) (V : Nat → Int32 → Int32 → Prop) (OR GV LK CE FR CL FN FE FC FF FM CL' : Nat → Int32) : Prop := ∀ f, f < nf → (GV f = -1 ∧ CL' f = CL f ∧ ∃ x, OR f = nI x ∧ FN f = nI (z + x) ∧ h0 26 x = 4 ∧ V x (LK f) (FE f)) ∨ (∃ m d, GV f = nI m ∧ OR f = nI d ∧ d < nd ∧ m ≤ sz d ∧ FN f = nI d - 1000000 ∧ FM f = nI m ∧ (0 < m → FC f = CE f ∧ FF f = FR f ∧ sr_o nc (CE f) ∧ sr_o nb (FR f) ∧ ∃ g, g < f ∧ LK f = nI g ∧ FE f = nI g ∧ GV g = nI (m - 1) ∧ OR g = nI d))
def mr_Wa (h0 : Nat → Nat → Int32) (z nc nw : Nat) (V : Nat → Int32 → Int32 → Prop) (WK WN WS WD WF WN' WE LO : Nat → Int32) : Prop := ∀ w, w < nw → WF w = WK w ∧ ((WK w = 5 ∧ ∃ c, c < nc ∧ WD w = nI c ∧ WN' w = nI c) ∨ (∃ x, WN w = nI x ∧ WN' w = nI (z + x) ∧ V x (WS w) (WE w) ∧ ((WK w = 0 ∧ h0 26 x = 6) ∨ (WK w = 1 ∧ h0 26 x = 7) ∨ (WK w = 2 ∧ h0 26 x = 8) ∨ (WK w = 3 ∧ h0 26 x = 8 ∧ LO w = WD w) ∨ (WK w = 4 ∧ h0 26 x = 9))))
theorem mr_Bm {nb nc nc' : Nat} {T C F T' C' F' : Nat → Int32} (h : nc ≤ nc') (r : mr_B nb nc T C F T' C' F') : mr_B nb nc' T C F T' C' F' := fun b hb => by
  obtain ⟨a1, a2, a3, a4, a5, a6⟩ := r b hb
  exact ⟨a1, a2, a3, a4, sr_oL h a5, a6⟩
theorem upd_at (f : Nat → Int32) (n : Nat) (v : Int32) : upd f n v n = v := by simp [upd]
theorem upd_ne {f : Nat → Int32} {n i : Nat} {v : Int32} (h : i ≠ n) : upd f n v i = f i := by simp [upd, h]
theorem mr_Ba {nb nc : Nat} {T C F T' C' F' : Nat → Int32} {t c f : Int32} (ht : sr_o 200 t) (hc : sr_o nc c) (hf : sr_o nb f) (r : mr_B nb nc T C F T' C' F') : mr_B (nb + 1) nc (upd T nb t) (upd C nb c) (upd F nb f) (upd T' nb t) (upd C' nb c) (upd F' nb f) := fun b hb => by
  by_cases e : b = nb
  · subst e
    simp only [upd_at]
    exact ⟨trivial, trivial, trivial, ht, hc, hf⟩
  · simp only [upd_ne e]
    exact r b (by omega)
theorem mr_Cm {z nc : Nat} {V V' : Nat → Int32 → Int32 → Prop} {W W' : Int32 → Int32 → Int32 → Prop} {N S HK D KP N' S' HK' D' KP' : Nat → Int32} (hV : ∀ x b e, V x b e → V' x b e) (hW : ∀ k c v, W k c v → W' k c v) (r : mr_Ce z nc V W N S HK D KP N' S' HK' D' KP') : mr_Ce z nc V' W' N S HK D KP N' S' HK' D' KP' := fun c hc => by
  obtain ⟨a1, a2, a3⟩ := r c hc
  refine ⟨a1, a2, ?_⟩
  rcases a3 with ⟨b1, x, b2, b3, b4⟩ | b
  · exact Or.inl ⟨b1, x, b2, b3, hV _ _ _ b4⟩
  · exact Or.inr (hW _ _ _ b)
theorem mr_Ca {z nc x : Nat} {V : Nat → Int32 → Int32 → Prop} {W : Int32 → Int32 → Int32 → Prop} {N S HK D KP N' S' HK' D' KP' : Nat → Int32} {b e kp : Int32} (hV : V x b e) (r : mr_Ce z nc V W N S HK D KP N' S' HK' D' KP') : mr_Ce z (nc + 1) V W (upd N nc (nI x)) (upd S nc b) (upd HK nc (-1)) (upd D nc 0) (upd KP nc kp) (upd N' nc (nI (z + x))) (upd S' nc e) (upd HK' nc (-1)) (upd D' nc 0) (upd KP' nc kp) := fun c hc => by
  by_cases y : c = nc
  · subst y
    simp only [upd_at]
    exact ⟨trivial, trivial, Or.inl ⟨trivial, x, rfl, rfl, hV⟩⟩
  · simp only [upd_ne y]
    exact r c (by omega)
theorem mr_Fm {h0 : Nat → Nat → Int32} {z nd nb nc nb' nc' nf : Nat} {sz : Nat → Nat} {V V' : Nat → Int32 → Int32 → Prop} {OR GV LK CE FR CL FN FE FC FF FM CL' : Nat → Int32} (hV : ∀ x b e, V x b e → V' x b e) (hb : nb ≤ nb') (hc : nc ≤ nc') (r : mr_Fu h0 z nd nb nc nf sz V OR GV LK CE FR CL FN FE FC FF FM CL') : mr_Fu h0 z nd nb' nc' nf sz V' OR GV LK CE FR CL FN FE FC FF FM CL' := fun f hf => by
  rcases r f hf with ⟨a1, a0, x, a2, a3, a4, a5⟩ | ⟨m, d, a1, a2, a3, a4, a5, a6, a7⟩
  · exact Or.inl ⟨a1, a0, x, a2, a3, a4, hV _ _ _ a5⟩
  · refine Or.inr ⟨m, d, a1, a2, a3, a4, a5, a6, fun h => ?_⟩
    obtain ⟨b1, b2, b3, b4, b5⟩ := a7 h
    exact ⟨b1, b2, sr_oL hc b3, sr_oL hb b4, b5⟩
theorem mr_Wm {h0 : Nat → Nat → Int32} {z nc nc' nw : Nat} {V V' : Nat → Int32 → Int32 → Prop} {WK WN WS WD WF WN' WE LO : Nat → Int32} (hV : ∀ x b e, V x b e → V' x b e) (hc : nc ≤ nc') (r : mr_Wa h0 z nc nw V WK WN WS WD WF WN' WE LO) : mr_Wa h0 z nc' nw V' WK WN WS WD WF WN' WE LO := fun w hw => by
  obtain ⟨a, b⟩ := r w hw
  refine ⟨a, ?_⟩
  rcases b with ⟨b1, c, b2, b3, b4⟩ | ⟨x, b1, b2, b3, b4⟩
  · exact Or.inl ⟨b1, c, by omega, b3, b4⟩
  · exact Or.inr ⟨x, b1, b2, hV _ _ _ b3, b4⟩
