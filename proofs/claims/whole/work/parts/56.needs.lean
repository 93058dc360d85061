/-! NEEDS: the reference counts them at once along the way they came, the class at the end -/
def nd_s (F : Nat → Int32) (τ : Nat → Nat) (b : Nat) : Nat → Nat
  | 0 => 0
  | n + 1 => nd_s F τ b n + (if F n = nI b then τ n else 0)
def nd_R (nb cn cl : Nat) (p : Int32) (TH F OW TT CC CR : Nat → Int32) : Prop := ∃ τ ω κ κ' : Nat → Nat, (∀ b, b < nb → TT b = nI (τ b) ∧ OW b = nI (ω b) ∧ ω b ≤ cn ∧ τ b ≤ cn ∧ (∀ i, p = nI i → i < nb → b ≤ i → τ b + 1 ≤ cn) ∧ τ b + (if nI b = p then 1 else 0) = ω b + nd_s F τ b nb) ∧ (∀ t, t < 200 → CC t = nI (κ t) ∧ CR t = nI (κ' t) ∧ κ t ≤ cn + cl ∧ κ' t ≤ cn + cl ∧ κ t ≤ κ' t ∧ (∀ b, b < nb → TH b = nI t → τ b ≤ κ' t) ∧ (κ' t = κ t ∨ ∃ b, b < nb ∧ TH b = nI t ∧ τ b = κ' t))
theorem nd_se {F F' : Nat → Int32} {τ τ' : Nat → Nat} {b : Nat} : ∀ {n : Nat}, (∀ i, i < n → F i = F' i ∧ τ i = τ' i) → nd_s F τ b n = nd_s F' τ' b n
  | 0, _ => rfl
  | n + 1, h => by
    unfold nd_s
    rw [nd_se (n := n) (fun i hi => h i (by omega)), (h n (by omega)).1, (h n (by omega)).2]
def nu (τ : Nat → Nat) (b v : Nat) : Nat → Nat := fun i => if i = b then v else τ i
theorem nd_s1 {F : Nat → Int32} {τ : Nat → Nat} {b b2 : Nat} : ∀ {n : Nat}, nd_s F (nu τ b (τ b + 1)) b2 n = nd_s F τ b2 n + (if b < n ∧ F b = nI b2 then 1 else 0)
  | 0 => by unfold nd_s; rw [if_neg (by omega)]
  | n + 1 => by
    unfold nd_s
    rw [nd_s1 (n := n)]
    by_cases c : n = b
    · subst c
      rw [if_neg (by omega), show nu τ n (τ n + 1) n = τ n + 1 from if_pos rfl]
      by_cases c2 : F n = nI b2
      · rw [if_pos c2, if_pos c2, if_pos ⟨by omega, c2⟩]; omega
      · rw [if_neg c2, if_neg c2, if_neg (fun z => c2 z.2)]
    · rw [show nu τ b (τ b + 1) n = τ n from if_neg c]
      by_cases c2 : b < n ∧ F b = nI b2
      · rw [if_pos (c := b < n ∧ F b = nI b2) c2, if_pos (c := b < n + 1 ∧ F b = nI b2) ⟨by omega, c2.2⟩]; omega
      · rw [if_neg (c := b < n ∧ F b = nI b2) c2, if_neg (c := b < n + 1 ∧ F b = nI b2) (fun z => c2 ⟨by omega, z.2⟩)]; omega
/-- the way goes down -/
theorem nd_s0 {F : Nat → Int32} {τ : Nat → Nat} {b : Nat} (hF : ∀ i, i < b + 1 → sr_o i (F i)) (hb : b < 2 ^ 31) : ∀ n, n ≤ b + 1 → nd_s F τ b n = 0
  | 0, _ => rfl
  | n + 1, h => by
    unfold nd_s
    rw [nd_s0 hF hb n (by omega), if_neg]
    intro e
    rcases hF n (by omega) with z | ⟨i, z1, z2⟩
    · rw [z] at e; exact absurd e.symm (fun q => by rw [nl_m1 hb] at q; exact q)
    · rw [z2] at e
      have := (nI_eq (by omega) hb).mp e
      omega
/-- one more binding, without needs -/
theorem nd_bind {nb cn cl : Nat} {TH F OW TT CC CR : Nat → Int32} {t f : Int32} (hb : nb < 2 ^ 31) (hF : ∀ i, i < nb → sr_o i (F i)) (hf : sr_o nb f) (r : nd_R nb cn cl (-1) TH F OW TT CC CR) : nd_R (nb + 1) cn cl (-1) (upd TH nb t) (upd F nb f) (upd OW nb 0) (upd TT nb 0) CC CR := by
  obtain ⟨τ, ω, κ, κ', r1, r2⟩ := r
  have m1 : ∀ i : Nat, i < 2 ^ 31 → ¬ nI i = -1 := fun i hi q => by rw [nl_m1 hi] at q; exact q
  have se : ∀ b, nd_s (upd F nb f) (nu τ nb 0) b nb = nd_s F τ b nb := fun b => nd_se (fun i hi => ⟨upd_ne (by omega), if_neg (by omega)⟩)
  refine ⟨nu τ nb 0, nu ω nb 0, κ, κ', fun b hb2 => ?_, fun t0 ht0 => ?_⟩
  · by_cases e : b = nb
    · subst e
      rw [upd_at, upd_at, show nu τ b 0 b = 0 from if_pos rfl, show nu ω b 0 b = 0 from if_pos rfl]
      refine ⟨rfl, rfl, Nat.zero_le _, Nat.zero_le _, fun i h1 h2 => absurd h1.symm (m1 i (by omega)), ?_⟩
      rw [if_neg (m1 b hb)]
      have := nd_s0 (F := upd F b f) (τ := nu τ b 0) (b := b) (fun i hi => by
        by_cases e : i = b
        · subst e; rw [upd_at]; exact hf
        · rw [upd_ne e]; exact hF i (by omega)) hb (b + 1) (Nat.le_refl _)
      rw [this]
    · obtain ⟨a1, a2, a3, a4, a5, a6⟩ := r1 b (by omega)
      rw [upd_ne e, upd_ne e, show nu τ nb 0 b = τ b from if_neg e, show nu ω nb 0 b = ω b from if_neg e]
      refine ⟨a1, a2, a3, a4, fun i h1 h2 => absurd h1.symm (m1 i (by omega)), ?_⟩
      unfold nd_s
      rw [se, show nu τ nb 0 nb = 0 from if_pos rfl]
      rw [ite_self]
      exact a6
  · obtain ⟨a1, a2, a3, a4, a5, a6, a7⟩ := r2 t0 ht0
    refine ⟨a1, a2, a3, a4, a5, fun b hb2 e => ?_, ?_⟩
    · by_cases y : b = nb
      · subst y; rw [show nu τ b 0 b = 0 from if_pos rfl]; exact Nat.zero_le _
      · rw [upd_ne y] at e; rw [show nu τ nb 0 b = τ b from if_neg y]; exact a6 b (by omega) e
    · rcases a7 with a7 | ⟨b, b1, b2, b3⟩
      · exact Or.inl a7
      · exact Or.inr ⟨b, by omega, by rw [upd_ne (by omega)]; exact b2, by rw [show nu τ nb 0 b = τ b from if_neg (by omega)]; exact b3⟩
/-- a NEED is noted by the class -/
theorem nd_note {nb cn cl b : Nat} {TH F OW TT CC CR : Nat → Int32} (hnb : nb < 2 ^ 31) (hb : b < nb) (r : nd_R nb cn cl (-1) TH F OW TT CC CR) : nd_R nb (cn + 1) cl (nI b) TH F (upd OW b (OW b + 1)) TT CC CR := by
  obtain ⟨τ, ω, κ, κ', r1, r2⟩ := r
  have m1 : ∀ i : Nat, i < 2 ^ 31 → ¬ nI i = -1 := fun i hi q => by rw [nl_m1 hi] at q; exact q
  refine ⟨τ, nu ω b (ω b + 1), κ, κ', fun b2 hb2 => ?_, fun t ht => ?_⟩
  · obtain ⟨a1, a2, a3, a4, a5, a6⟩ := r1 b2 hb2
    rw [if_neg (m1 b2 (by omega))] at a6
    by_cases e : b2 = b
    · subst e
      rw [upd_at, a2, nI_1, show nu ω b2 (ω b2 + 1) b2 = ω b2 + 1 from if_pos rfl, if_pos rfl]
      exact ⟨a1, rfl, by omega, by omega, fun _ _ _ _ => by omega, by omega⟩
    · rw [upd_ne e, show nu ω b (ω b + 1) b2 = ω b2 from if_neg e, if_neg (fun q => e ((nI_eq (by omega) (by omega)).mp q))]
      exact ⟨a1, a2, by omega, by omega, fun _ _ _ _ => by omega, a6⟩
  · obtain ⟨a1, a2, a3, a4, a5⟩ := r2 t ht
    exact ⟨a1, a2, by omega, by omega, a5⟩
/-- and counted by the reference, a step of the way -/
theorem nd_up {nb cn cl b : Nat} {TH F OW TT CC CR CR' : Nat → Int32} (hnb : nb < 2 ^ 31) (hc : cn + cl < 2 ^ 31) (hb : b < nb) (hF : sr_o b (F b)) (hT : sr_o 200 (TH b)) (r : nd_R nb cn cl (nI b) TH F OW TT CC CR) (hC : ∀ t, t < 200 → CR' t = if TH b = nI t then us_max (CR t) (TT b + 1) else CR t) : nd_R nb cn cl (F b) TH F OW (upd TT b (TT b + 1)) CC CR' := by
  obtain ⟨τ, ω, κ, κ', r1, r2⟩ := r
  have rb := r1 b hb
  refine ⟨nu τ b (τ b + 1), ω, κ, fun t => if TH b = nI t then max (κ' t) (τ b + 1) else κ' t, fun b2 hb2 => ?_, fun t ht => ?_⟩
  · obtain ⟨a1, a2, a3, a4, a5, a6⟩ := r1 b2 hb2
    rw [nd_s1]
    have q1 := rb.2.2.2.2.1 b rfl hb (Nat.le_refl _)
    have lw : ∀ i, F b = nI i → i < nb → i < b := fun i h1 h2 => by
      rcases hF with z | ⟨j, z1, z2⟩
      · rw [z] at h1; exact absurd h1.symm (fun q => by rw [nl_m1 (by omega)] at q; exact q)
      · rw [z2] at h1; have := (nI_eq (by omega) (by omega)).mp h1; omega
    by_cases e : b2 = b
    · subst e
      rw [upd_at, a1, nI_1, show nu τ b2 (τ b2 + 1) b2 = τ b2 + 1 from if_pos rfl]
      rw [if_pos rfl] at a6
      have n1 : ¬ nI b2 = F b2 := fun q => by have := lw b2 q.symm hb; omega
      rw [if_neg n1, if_neg (fun q => n1 q.2.symm)]
      exact ⟨rfl, a2, a3, q1, fun i h1 h2 h3 => by have := lw i h1 h2; omega, by omega⟩
    · rw [upd_ne e, show nu τ b (τ b + 1) b2 = τ b2 from if_neg e]
      rw [if_neg (fun q => e ((nI_eq (by omega) (by omega)).mp q))] at a6
      refine ⟨a1, a2, a3, a4, fun i h1 h2 h3 => a5 b rfl hb (by have := lw i h1 h2; omega), ?_⟩
      by_cases c : F b = nI b2
      · rw [if_pos c.symm, if_pos ⟨hb, c⟩]; omega
      · rw [if_neg (fun q => c q.symm), if_neg (fun q => c q.2)]; omega
  · obtain ⟨a1, a2, a3, a4, a5, a6, a7⟩ := r2 t ht
    have q1 := rb.2.2.2.2.1 b rfl hb (Nat.le_refl _)
    dsimp only
    by_cases c : TH b = nI t
    · rw [hC t ht, if_pos c, if_pos c, a2, rb.1, nI_1]
      have em : us_max (nI (κ' t)) (nI (τ b + 1)) = nI (max (κ' t) (τ b + 1)) := by
        unfold us_max
        by_cases z : κ' t < τ b + 1
        · rw [if_pos (nI_lt z (by omega)), Nat.max_eq_right (by omega)]
        · rw [if_neg (nI_nlt (by omega) (by omega)), Nat.max_eq_left (by omega)]
      refine ⟨a1, em, a3, by omega, by omega, fun b2 h1 h2 => ?_, ?_⟩
      · by_cases e : b2 = b
        · subst e; rw [show nu τ b2 (τ b2 + 1) b2 = τ b2 + 1 from if_pos rfl]; omega
        · rw [show nu τ b (τ b + 1) b2 = τ b2 from if_neg e]; have := a6 b2 h1 h2; omega
      · by_cases z : κ' t < τ b + 1
        · exact Or.inr ⟨b, hb, c, by rw [show nu τ b (τ b + 1) b = τ b + 1 from if_pos rfl]; omega⟩
        · rcases a7 with a7 | ⟨b2, y1, y2, y3⟩
          · exact Or.inl (by omega)
          · refine Or.inr ⟨b2, y1, y2, ?_⟩
            by_cases e : b2 = b
            · subst e; omega
            · rw [show nu τ b (τ b + 1) b2 = τ b2 from if_neg e]; omega
    · rw [hC t ht, if_neg c, if_neg c]
      refine ⟨a1, a2, a3, a4, a5, fun b2 h1 h2 => ?_, ?_⟩
      · by_cases e : b2 = b
        · subst e; exact absurd h2 c
        · rw [show nu τ b (τ b + 1) b2 = τ b2 from if_neg e]; exact a6 b2 h1 h2
      · rcases a7 with a7 | ⟨b2, y1, y2, y3⟩
        · exact Or.inl a7
        · refine Or.inr ⟨b2, y1, y2, ?_⟩
          by_cases e : b2 = b
          · subst e; exact absurd y2 c
          · rw [show nu τ b (τ b + 1) b2 = τ b2 from if_neg e]; exact y3
/-- CALLS of a \\, in both -/
theorem nd_max {a b : Nat} (ha : a < 2 ^ 31) (hb : b < 2 ^ 31) : us_max (nI a) (nI b) = nI (max a b) := by
  unfold us_max
  by_cases z : a < b
  · rw [if_pos (nI_lt z hb), Nat.max_eq_right (by omega)]
  · rw [if_neg (nI_nlt (by omega) ha), Nat.max_eq_left (by omega)]
theorem nd_call {nb cn cl t0 v : Nat} {TH F OW TT CC CR : Nat → Int32} (h1 : ∀ b, b < nb → ¬ TH b = nI t0) (hv : v ≤ cl + 1) (hc : cn + cl + 1 < 2 ^ 31) (ht0 : t0 < 200) (r : nd_R nb cn cl (-1) TH F OW TT CC CR) : nd_R nb cn (cl + 1) (-1) TH F OW TT (upd CC t0 (us_max (CC t0) (nI v))) (upd CR t0 (us_max (CR t0) (nI v))) := by
  obtain ⟨τ, ω, κ, κ', r1, r2⟩ := r
  have r0 := r2 t0 ht0
  have e0 : κ' t0 = κ t0 := by
    rcases r0.2.2.2.2.2.2 with z | ⟨b, z1, z2, _⟩
    · exact z
    · exact absurd z2 (h1 b z1)
  refine ⟨τ, ω, nu κ t0 (max (κ t0) v), nu κ' t0 (max (κ' t0) v), r1, fun t ht => ?_⟩
  obtain ⟨a1, a2, a3, a4, a5, a6, a7⟩ := r2 t ht
  by_cases c : t = t0
  · subst c
    rw [upd_at, upd_at, a1, a2, nd_max (by omega) (by omega), nd_max (by omega) (by omega), show nu κ t (max (κ t) v) t = max (κ t) v from if_pos rfl, show nu κ' t (max (κ' t) v) t = max (κ' t) v from if_pos rfl]
    exact ⟨rfl, rfl, by omega, by omega, by omega, fun b y1 y2 => absurd y2 (h1 b y1), Or.inl (by omega)⟩
  · rw [upd_ne c, upd_ne c, show nu κ t0 (max (κ t0) v) t = κ t from if_neg c, show nu κ' t0 (max (κ' t0) v) t = κ' t from if_neg c]
    exact ⟨a1, a2, by omega, by omega, a5, a6, a7⟩
