/-- a value that is no reference to a cell outside A -/
def fr_v (A : Nat → Prop) (v : Value) : Prop := ∀ k, v = .ref k → A k
/-- A is closed under the references of the shapes -/
def fr_S (A : Nat → Prop) (N0 : Nat) (S : List am_Sh) : Prop := N0 ≤ S.length ∧ ∀ (r : Nat) (sh : am_Sh), A r → S[r]? = some sh → ∀ (k q : Nat), sh.2.2.getD k 0 = q + 1 → A q
def fr_l (A : Nat → Prop) (ls : am_L) : Prop := ∀ q ∈ ls, fr_v A q.2
def fr_s (A : Nat → Prop) (st : List Value) : Prop := ∀ v ∈ st, fr_v A v
/-- what is outside A stays -/
def fr_E (A : Nat → Prop) (N0 : Nat) (G G' : am_G) : Prop := fr_S A N0 G'.1 ∧ ∀ c, ¬ A c → G'.2.1 c = G.2.1 c ∧ G'.2.2 c = G.2.2 c
def fr_ov (A : Nat → Prop) (v : Option Value) : Prop := ∀ x, v = some x → fr_v A x
theorem fr_int (A : Nat → Prop) (x : Int32) : fr_v A (.int x) := fun k h => by cases h
theorem fr_long (A : Nat → Prop) (x : Int64) : fr_v A (.long x) := fun k h => by cases h
theorem fr_cons {A : Nat → Prop} {v : Value} {st : List Value} (h : fr_v A v) (h2 : fr_s A st) : fr_s A (v :: st) := fun x hx => by
  rcases List.mem_cons.mp hx with rfl | h
  · assumption
  · exact h2 x h
theorem fr_tl {A : Nat → Prop} {v : Value} {st : List Value} (h : fr_s A (v :: st)) : fr_s A st := fun x hx => h x (List.mem_cons_of_mem _ hx)
theorem fr_hd {A : Nat → Prop} {v : Value} {st : List Value} (h : fr_s A (v :: st)) : fr_v A v := h v List.mem_cons_self
theorem fr_put {A : Nat → Prop} {ls : am_L} {i : Nat} {v : Value} (h : fr_l A ls) (hv : fr_v A v) : fr_l A (am_put ls i v) := fun q hq => by
  rcases List.mem_cons.mp hq with rfl | h1
  · exact hv
  · exact h q (List.mem_filter.mp h1).1
theorem fr_put2 {A : Nat → Prop} {ls : am_L} {i : Nat} {v : Value} (h : fr_l A ls) (hv : fr_v A v) : fr_l A (am_put2 ls i v) := fun q hq => by
  rcases List.mem_cons.mp hq with rfl | h1
  · exact hv
  · exact h q (List.mem_filter.mp h1).1
theorem fr_E.refl {A : Nat → Prop} {N0 : Nat} {G : am_G} (h : fr_S A N0 G.1) : fr_E A N0 G G := ⟨h, fun _ _ => ⟨rfl, rfl⟩⟩
theorem fr_E.trans {A : Nat → Prop} {N0 : Nat} {G G1 G2 : am_G} (h : fr_E A N0 G G1) (h2 : fr_E A N0 G1 G2) : fr_E A N0 G G2 := ⟨h2.1, fun c hc => ⟨(h2.2 c hc).1.trans (h.2 c hc).1, (h2.2 c hc).2.trans (h.2 c hc).2⟩⟩
theorem fr_si {A : Nat → Prop} {N0 : Nat} {G : am_G} {x k : Nat} {v : Int32} (h : fr_S A N0 G.1) (hx : A x) : fr_E A N0 G (G.1, am_si G.2.1 x k v, G.2.2) := ⟨h, fun c hc => ⟨am_si_ne (fun e => hc (e ▸ hx)), rfl⟩⟩
theorem fr_sl {A : Nat → Prop} {N0 : Nat} {G : am_G} {x k : Nat} {v : Int64} (h : fr_S A N0 G.1) (hx : A x) : fr_E A N0 G (G.1, G.2.1, am_sl G.2.2 x k v) := ⟨h, fun c hc => ⟨rfl, am_sl_ne (fun e => hc (e ▸ hx))⟩⟩
theorem fr_sr {A : Nat → Prop} {N0 : Nat} {G : am_G} {x : Nat} {f : Nat → Int32} (h : fr_S A N0 G.1) (hx : A x) : fr_E A N0 G (G.1, am_sr G.2.1 x f, G.2.2) := ⟨h, fun c hc => ⟨am_sr_ne (fun e => hc (e ▸ hx)), rfl⟩⟩
theorem fr_set {A : Nat → Prop} {N0 : Nat} {G : am_G} {x k q : Nat} {sh : am_Sh} (h : fr_S A N0 G.1) (hs : G.1[x]? = some sh) (hq : A q) (hx : A x) : fr_E A N0 G (G.1.set x (sh.1, sh.2.1, sh.2.2.set k (q + 1)), G.2.1, G.2.2) := by
  refine ⟨⟨by simpa using h.1, fun r s' hr h1 j p hp => ?_⟩, fun _ _ => ⟨rfl, rfl⟩⟩
  by_cases e : r = x
  · subst e
    have hl : r < G.1.length := (List.getElem?_eq_some_iff.mp hs).1
    dsimp only at h1
    rw [List.getElem?_set_self hl] at h1
    cases h1
    dsimp only at hp
    by_cases ej : j = k
    · subst ej
      by_cases hk : j < sh.2.2.length
      · rw [List.getD_eq_getElem?_getD, List.getElem?_set_self hk] at hp
        cases hp
        exact hq
      · rw [List.getD_eq_getElem?_getD, List.getElem?_eq_none (by simp; omega)] at hp
        cases hp
    · rw [List.getD_eq_getElem?_getD, List.getElem?_set_ne (Ne.symm ej), ← List.getD_eq_getElem?_getD] at hp
      exact h.2 r sh hr hs j p hp
  · dsimp only at h1
    rw [List.getElem?_set_ne (Ne.symm e)] at h1
    exact h.2 r s' hr h1 j p hp
theorem fr_push {A : Nat → Prop} {N0 : Nat} {G : am_G} {sh : am_Sh} {f : Nat → Int32} {g : Nat → Int64} (h : fr_S A N0 G.1) (hA : A G.1.length) (hz : ∀ k, sh.2.2.getD k 0 = 0) : fr_E A N0 G (G.1 ++ [sh], am_sr G.2.1 G.1.length f, am_srl G.2.2 G.1.length g) := by
  refine ⟨⟨by have := h.1; simp; omega, fun r s' hr h1 j p hp => ?_⟩, fun c hc => ⟨am_sr_ne (fun e => hc (e ▸ hA)), am_srl_ne (fun e => hc (e ▸ hA))⟩⟩
  dsimp only at h1
  by_cases hl : r < G.1.length
  · rw [List.getElem?_append_left hl] at h1
    exact h.2 r s' hr h1 j p hp
  · rw [List.getElem?_append_right (by omega)] at h1
    have h0 : r - G.1.length < 1 := (List.getElem?_eq_some_iff.mp h1).1
    rw [show r - G.1.length = 0 by omega] at h1
    cases h1
    rw [hz] at hp
    cases hp
def fr_J (A : Nat → Prop) (N0 : Nat) (J : am_J) : Prop := ∀ t ls st G v G', fr_l A ls → fr_s A st → fr_S A N0 G.1 → J t ls st G = some (v, G') → fr_ov A v ∧ fr_E A N0 G G'
def fr_C (A : Nat → Prop) (N0 : Nat) (C : am_C) : Prop := ∀ a as G v G', fr_s A as → fr_S A N0 G.1 → C a as G = some (v, G') → fr_ov A v ∧ fr_E A N0 G G'
theorem fr_sw {A : Nat → Prop} {J : Nat → am_R} {x : Int32} {d : Nat} {v : Option Value} {G' : am_G} {Pp : Prop} (hJ : ∀ t, J t = some (v, G') → Pp) : ∀ tb, am_sw J x d tb = some (v, G') → Pp := by
  intro tb
  induction tb with
  | nil => exact hJ d
  | cons q r ih =>
    obtain ⟨k, t⟩ := q
    intro h
    unfold am_sw at h
    split at h
    · exact hJ t h
    · exact ih h
theorem fr_ovl {A : Nat → Prop} {v : Option Value} (h : fr_ov A v) : fr_s A v.toList := fun x hx => by
  cases v with
  | none => cases hx
  | some y => rcases List.mem_singleton.mp hx with rfl; exact h _ rfl
theorem fr_app {A : Nat → Prop} {a b : List Value} (h : fr_s A a) (h2 : fr_s A b) : fr_s A (a ++ b) := fun x hx => (List.mem_append.mp hx).elim (h x) (h2 x)
set_option maxHeartbeats 4000000 in
theorem fr_op {A : Nat → Prop} {N0 : Nat} (hA : ∀ n, N0 ≤ n → A n) {C : am_C} {J : am_J} {K : am_K} {o : am_O} {ls : am_L} {st : List Value} {G G' : am_G} {v : Option Value} (hC : fr_C A N0 C) (hJ : fr_J A N0 J) (hK : ∀ ls st G v G', fr_l A ls → fr_s A st → fr_S A N0 G.1 → K ls st G = some (v, G') → fr_ov A v ∧ fr_E A N0 G G') (l1 : fr_l A ls) (s1 : fr_s A st) (g1 : fr_S A N0 G.1) (h : am_op C J K o ls st G = some (v, G')) : fr_ov A v ∧ fr_E A N0 G G' := by
  obtain ⟨i, n, a, b, c', tb⟩ := o
  unfold am_op at h
  cases i with
  | iconst k =>
    dsimp only at h
    obtain ⟨x, t, -, h1⟩ := am_k_e h
    exact hK _ _ _ _ _ l1 (fr_cons (fr_int _ _) s1) g1 h1
  | bipush k =>
    dsimp only at h
    obtain ⟨x, t, -, h1⟩ := am_k_e h
    exact hK _ _ _ _ _ l1 (fr_cons (fr_int _ _) s1) g1 h1
  | sipush k =>
    dsimp only at h
    obtain ⟨x, t, -, h1⟩ := am_k_e h
    exact hK _ _ _ _ _ l1 (fr_cons (fr_int _ _) s1) g1 h1
  | ldc k =>
    dsimp only at h
    obtain ⟨x, t, -, h1⟩ := am_k_e h
    exact hK _ _ _ _ _ l1 (fr_cons (fr_int _ _) s1) g1 h1
  | ldc_w k =>
    dsimp only at h
    obtain ⟨x, t, -, h1⟩ := am_k_e h
    exact hK _ _ _ _ _ l1 (fr_cons (fr_int _ _) s1) g1 h1
  | lconst k =>
    dsimp only at h
    exact hK _ _ _ _ _ l1 (fr_cons (fr_long _ _) s1) g1 h
  | ldc2_w k =>
    dsimp only at h
    exact hK _ _ _ _ _ l1 (fr_cons (fr_long _ _) s1) g1 h
  | iload i =>
    dsimp only at h
    obtain ⟨x, hx, h1⟩ := am_ldi_e h
    exact hK _ _ _ _ _ l1 (fr_cons (fr_int _ _) s1) g1 h1
  | iload_n i =>
    dsimp only at h
    obtain ⟨x, hx, h1⟩ := am_ldi_e h
    exact hK _ _ _ _ _ l1 (fr_cons (fr_int _ _) s1) g1 h1
  | lload i =>
    dsimp only at h
    obtain ⟨x, hx, h1⟩ := am_ldl_e h
    exact hK _ _ _ _ _ l1 (fr_cons (fr_long _ _) s1) g1 h1
  | lload_n i =>
    dsimp only at h
    obtain ⟨x, hx, h1⟩ := am_ldl_e h
    exact hK _ _ _ _ _ l1 (fr_cons (fr_long _ _) s1) g1 h1
  | aload i =>
    dsimp only at h
    obtain ⟨x, hx, h1⟩ := am_lda_e h
    exact hK _ _ _ _ _ l1 (fr_cons (l1 _ (am_get_mem hx)) s1) g1 h1
  | aload_n i =>
    dsimp only at h
    obtain ⟨x, hx, h1⟩ := am_lda_e h
    exact hK _ _ _ _ _ l1 (fr_cons (l1 _ (am_get_mem hx)) s1) g1 h1
  | istore i =>
    dsimp only at h
    obtain ⟨x, r, rfl, h1⟩ := am_p1_e h
    exact hK _ _ _ _ _ (fr_put l1 (fr_int _ _)) (fr_tl s1) g1 h1
  | istore_n i =>
    dsimp only at h
    obtain ⟨x, r, rfl, h1⟩ := am_p1_e h
    exact hK _ _ _ _ _ (fr_put l1 (fr_int _ _)) (fr_tl s1) g1 h1
  | lstore i =>
    dsimp only at h
    obtain ⟨x, r, rfl, h1⟩ := am_q1_e h
    exact hK _ _ _ _ _ (fr_put2 l1 (fr_long _ _)) (fr_tl s1) g1 h1
  | lstore_n i =>
    dsimp only at h
    obtain ⟨x, r, rfl, h1⟩ := am_q1_e h
    exact hK _ _ _ _ _ (fr_put2 l1 (fr_long _ _)) (fr_tl s1) g1 h1
  | astore i =>
    dsimp only at h
    obtain ⟨x, r, rfl, h1⟩ := am_a1_e h
    exact hK _ _ _ _ _ (fr_put l1 (fr_hd s1)) (fr_tl s1) g1 h1
  | astore_n i =>
    dsimp only at h
    obtain ⟨x, r, rfl, h1⟩ := am_a1_e h
    exact hK _ _ _ _ _ (fr_put l1 (fr_hd s1)) (fr_tl s1) g1 h1
  | iinc i k =>
    dsimp only at h
    obtain ⟨y, t, -, h1⟩ := am_k_e h
    obtain ⟨x, -, h2⟩ := am_ldi_e h1
    exact hK _ _ _ _ _ (fr_put l1 (fr_int _ _)) s1 g1 h2
  | iadd =>
    dsimp only at h
    obtain ⟨x, y, r, rfl, h1⟩ := am_p2_e h
    exact hK _ _ _ _ _ l1 (fr_cons (fr_int _ _) (fr_tl (fr_tl s1))) g1 h1
  | isub =>
    dsimp only at h
    obtain ⟨x, y, r, rfl, h1⟩ := am_p2_e h
    exact hK _ _ _ _ _ l1 (fr_cons (fr_int _ _) (fr_tl (fr_tl s1))) g1 h1
  | imul =>
    dsimp only at h
    obtain ⟨x, y, r, rfl, h1⟩ := am_p2_e h
    exact hK _ _ _ _ _ l1 (fr_cons (fr_int _ _) (fr_tl (fr_tl s1))) g1 h1
  | iand =>
    dsimp only at h
    obtain ⟨x, y, r, rfl, h1⟩ := am_p2_e h
    exact hK _ _ _ _ _ l1 (fr_cons (fr_int _ _) (fr_tl (fr_tl s1))) g1 h1
  | ishr =>
    dsimp only at h
    obtain ⟨x, y, r, rfl, h1⟩ := am_p2_e h
    exact hK _ _ _ _ _ l1 (fr_cons (fr_int _ _) (fr_tl (fr_tl s1))) g1 h1
  | idiv =>
    dsimp only at h
    obtain ⟨x, y, r, rfl, h1⟩ := am_p2_e h
    exact hK _ _ _ _ _ l1 (fr_cons (fr_int _ _) (fr_tl (fr_tl s1))) g1 (am_nite_e h1).2
  | irem =>
    dsimp only at h
    obtain ⟨x, y, r, rfl, h1⟩ := am_p2_e h
    exact hK _ _ _ _ _ l1 (fr_cons (fr_int _ _) (fr_tl (fr_tl s1))) g1 (am_nite_e h1).2
  | land =>
    dsimp only at h
    obtain ⟨x, y, r, rfl, h1⟩ := am_q2_e h
    exact hK _ _ _ _ _ l1 (fr_cons (fr_long _ _) (fr_tl (fr_tl s1))) g1 h1
  | lor =>
    dsimp only at h
    obtain ⟨x, y, r, rfl, h1⟩ := am_q2_e h
    exact hK _ _ _ _ _ l1 (fr_cons (fr_long _ _) (fr_tl (fr_tl s1))) g1 h1
  | lcmp =>
    dsimp only at h
    obtain ⟨x, y, r, rfl, h1⟩ := am_q2_e h
    exact hK _ _ _ _ _ l1 (fr_cons (fr_int _ _) (fr_tl (fr_tl s1))) g1 h1
  | lshl =>
    dsimp only at h
    obtain ⟨x, y, r, rfl, h1⟩ := am_qs_e h
    exact hK _ _ _ _ _ l1 (fr_cons (fr_long _ _) (fr_tl (fr_tl s1))) g1 h1
  | lshr =>
    dsimp only at h
    obtain ⟨x, y, r, rfl, h1⟩ := am_qs_e h
    exact hK _ _ _ _ _ l1 (fr_cons (fr_long _ _) (fr_tl (fr_tl s1))) g1 h1
  | lushr =>
    dsimp only at h
    obtain ⟨x, y, r, rfl, h1⟩ := am_qs_e h
    exact hK _ _ _ _ _ l1 (fr_cons (fr_long _ _) (fr_tl (fr_tl s1))) g1 h1
  | i2l =>
    dsimp only at h
    obtain ⟨x, r, rfl, h1⟩ := am_p1_e h
    exact hK _ _ _ _ _ l1 (fr_cons (fr_long _ _) (fr_tl s1)) g1 h1
  | l2i =>
    dsimp only at h
    obtain ⟨x, r, rfl, h1⟩ := am_q1_e h
    exact hK _ _ _ _ _ l1 (fr_cons (fr_int _ _) (fr_tl s1)) g1 h1
  | i2b =>
    dsimp only at h
    obtain ⟨x, r, rfl, h1⟩ := am_p1_e h
    exact hK _ _ _ _ _ l1 (fr_cons (fr_int _ _) (fr_tl s1)) g1 h1
  | dup =>
    dsimp only at h
    split at h
    · exact hK _ _ _ _ _ l1 (fr_cons (fr_hd s1) s1) g1 (am_ite_e h).2
    · cases h
  | pop =>
    dsimp only at h
    split at h
    · exact hK _ _ _ _ _ l1 (fr_tl s1) g1 (am_ite_e h).2
    · cases h
  | dup2 =>
    dsimp only at h
    split at h
    · exact hK _ _ _ _ _ l1 (fr_cons (fr_hd s1) (fr_cons (fr_hd (fr_tl s1)) s1)) g1 (am_ite_e h).2
    · cases h
  | goto off =>
    dsimp only at h
    exact hJ _ _ _ _ _ _ l1 s1 g1 h
  | ifCond k off =>
    dsimp only at h
    obtain ⟨x, r, rfl, h1⟩ := am_p1_e h
    clear h
    unfold am_cond at h1
    cases k <;> (dsimp only at h1; split at h1; exact hJ _ _ _ _ _ _ l1 (fr_tl s1) g1 h1; exact hK _ _ _ _ _ l1 (fr_tl s1) g1 h1)
  | if_icmp k off =>
    dsimp only at h
    obtain ⟨x, y, r, rfl, h1⟩ := am_p2_e h
    clear h
    unfold am_cond at h1
    cases k <;> (dsimp only at h1; split at h1; exact hJ _ _ _ _ _ _ l1 (fr_tl (fr_tl s1)) g1 h1; exact hK _ _ _ _ _ l1 (fr_tl (fr_tl s1)) g1 h1)
  | tableswitch d lo hi os =>
    dsimp only at h
    obtain ⟨x, r, rfl, h1⟩ := am_p1_e h
    exact fr_sw (A := A) (fun t ht => hJ _ _ _ _ _ _ l1 (fr_tl s1) g1 ht) tb h1
  | lookupswitch d os =>
    dsimp only at h
    obtain ⟨x, r, rfl, h1⟩ := am_p1_e h
    exact fr_sw (A := A) (fun t ht => hJ _ _ _ _ _ _ l1 (fr_tl s1) g1 ht) tb h1
  | getfield ix =>
    dsimp only at h
    obtain ⟨x, r, rfl, h1⟩ := am_a1_e h
    obtain ⟨sh, hs, -, -, h2⟩ := am_getf_e h1
    rcases h2 with ⟨-, h2⟩ | ⟨-, h2⟩ | ⟨-, q, hq, h2⟩
    · exact hK _ _ _ _ _ l1 (fr_cons (fr_int _ _) (fr_tl s1)) g1 h2
    · exact hK _ _ _ _ _ l1 (fr_cons (fr_long _ _) (fr_tl s1)) g1 h2
    · exact hK _ _ _ _ _ l1 (fr_cons (fun k hk => by cases hk; exact g1.2 x sh (fr_hd s1 x rfl) hs _ _ hq) (fr_tl s1)) g1 h2
  | putfield ix =>
    dsimp only at h
    split at h
    · next w x r =>
      have hx : A x := fr_hd (fr_tl s1) x rfl
      have hr := fr_tl (fr_tl s1)
      obtain ⟨sh, hs, -, -, h2⟩ := am_putf_e h
      rcases h2 with ⟨y, -, -, h2⟩ | ⟨y, -, -, h2⟩ | ⟨y, -, rfl, -, h2⟩
      · have e := fr_si (k := b) (v := y) g1 hx
        have h9 := hK _ _ _ _ _ l1 hr e.1 h2
        exact ⟨h9.1, e.trans h9.2⟩
      · have e := fr_sl (k := b) (v := y) g1 hx
        have h9 := hK _ _ _ _ _ l1 hr e.1 h2
        exact ⟨h9.1, e.trans h9.2⟩
      · have e := fr_set (k := b) g1 hs (fr_hd s1 y rfl) hx
        have h9 := hK _ _ _ _ _ l1 hr e.1 h2
        exact ⟨h9.1, e.trans h9.2⟩
    · cases h
  | iaload =>
    dsimp only at h
    obtain ⟨x, i, r, rfl, h1⟩ := am_ai_e h
    obtain ⟨sh, -, h2⟩ := am_sh_e h1
    exact hK _ _ _ _ _ l1 (fr_cons (fr_int _ _) (fr_tl (fr_tl s1))) g1 (am_nite_e (am_ite_e h2).2).2
  | baload =>
    dsimp only at h
    obtain ⟨x, i, r, rfl, h1⟩ := am_ai_e h
    obtain ⟨sh, -, h2⟩ := am_sh_e h1
    exact hK _ _ _ _ _ l1 (fr_cons (fr_int _ _) (fr_tl (fr_tl s1))) g1 (am_nite_e (am_ite_e h2).2).2
  | laload =>
    dsimp only at h
    obtain ⟨x, i, r, rfl, h1⟩ := am_ai_e h
    obtain ⟨sh, -, h2⟩ := am_sh_e h1
    exact hK _ _ _ _ _ l1 (fr_cons (fr_long _ _) (fr_tl (fr_tl s1))) g1 (am_nite_e (am_ite_e h2).2).2
  | iastore =>
    dsimp only at h
    obtain ⟨z, r0, rfl, h0⟩ := am_p1_e h
    obtain ⟨x, i, r, rfl, h1⟩ := am_ai_e h0
    obtain ⟨sh, -, h2⟩ := am_sh_e h1
    have hx : A x := fr_hd (fr_tl (fr_tl s1)) x rfl
    have h3 := (am_nite_e (am_ite_e h2).2).2
    have e := fr_si (k := i.toNatClampNeg) (v := z) g1 hx
    have h9 := hK _ _ _ _ _ l1 (fr_tl (fr_tl (fr_tl s1))) e.1 h3
    exact ⟨h9.1, e.trans h9.2⟩
  | bastore =>
    dsimp only at h
    obtain ⟨z, r0, rfl, h0⟩ := am_p1_e h
    obtain ⟨x, i, r, rfl, h1⟩ := am_ai_e h0
    obtain ⟨sh, -, h2⟩ := am_sh_e h1
    have hx : A x := fr_hd (fr_tl (fr_tl s1)) x rfl
    have h3 := (am_nite_e (am_ite_e h2).2).2
    have e := fr_si (k := i.toNatClampNeg) (v := vp_nar (if a = 102 then .byte else .boolean) z) g1 hx
    have h9 := hK _ _ _ _ _ l1 (fr_tl (fr_tl (fr_tl s1))) e.1 h3
    exact ⟨h9.1, e.trans h9.2⟩
  | lastore =>
    dsimp only at h
    obtain ⟨z, r0, rfl, h0⟩ := am_q1_e h
    obtain ⟨x, i, r, rfl, h1⟩ := am_ai_e h0
    obtain ⟨sh, -, h2⟩ := am_sh_e h1
    have hx : A x := fr_hd (fr_tl (fr_tl s1)) x rfl
    have h3 := (am_nite_e (am_ite_e h2).2).2
    have e := fr_sl (k := i.toNatClampNeg) (v := z) g1 hx
    have h9 := hK _ _ _ _ _ l1 (fr_tl (fr_tl (fr_tl s1))) e.1 h3
    exact ⟨h9.1, e.trans h9.2⟩
  | arraylength =>
    dsimp only at h
    obtain ⟨x, r, rfl, h1⟩ := am_a1_e h
    obtain ⟨sh, -, h2⟩ := am_sh_e h1
    exact hK _ _ _ _ _ l1 (fr_cons (fr_int _ _) (fr_tl s1)) g1 (am_ite_e h2).2
  | new ix =>
    dsimp only at h
    have e : fr_E A N0 G (am_new G a b) := fr_push g1 (hA _ g1.1) (fun k => by simp [List.getD_eq_getElem?_getD, List.getElem?_replicate]; split <;> rfl)
    have h9 := hK _ _ _ _ _ l1 (fr_cons (fun k hk => by cases hk; exact hA _ g1.1) s1) e.1 h
    exact ⟨h9.1, e.trans h9.2⟩
  | newarray t =>
    dsimp only at h
    obtain ⟨x, r, rfl, h1⟩ := am_p1_e h
    have e : fr_E A N0 G (am_newa G a x.toNatClampNeg) := fr_push g1 (hA _ g1.1) (fun k => rfl)
    have h9 := hK _ _ _ _ _ l1 (fr_cons (fun k hk => by cases hk; exact hA _ g1.1) (fr_tl s1)) e.1 (am_nite_e h1).2
    exact ⟨h9.1, e.trans h9.2⟩
  | invokevirtual ix =>
    dsimp only at h
    have h1 := (am_ite_e h).2
    split at h1
    · next x As eA =>
      obtain ⟨sh, -, h2⟩ := am_sh_e h1
      obtain ⟨v1, G1, hc, h3⟩ := am_ret_e (am_ite_e h2).2
      have e := hC _ _ _ _ _ (eA ▸ ((fun x hx => s1 x (List.mem_of_mem_take (List.mem_reverse.mp hx))) : fr_s A (st.take b).reverse)) g1 hc
      have h9 := hK _ _ _ _ _ l1 (fr_app (fr_ovl e.1) ((fun x hx => s1 x (List.mem_of_mem_drop hx)) : fr_s A (st.drop b))) e.2.1 h3
      exact ⟨h9.1, e.2.trans h9.2⟩
    · cases h1
  | invokestatic ix =>
    dsimp only at h
    split at h
    · split at h
      · have h1 := (am_ite_e h).2
        unfold am_copy at h1
        obtain ⟨z1, -, h2⟩ := am_sh_e h1
        obtain ⟨z2, -, h3⟩ := am_sh_e h2
        have hx := fr_hd (fr_tl (fr_tl s1)) _ rfl
        have h4 := (am_ite_e h3).2
        have h9 := hK _ _ (_, _, _) _ _ l1 (fr_tl (fr_tl (fr_tl (fr_tl (fr_tl s1))))) (fr_sr g1 hx).1 h4
        exact ⟨h9.1, (fr_sr g1 hx).trans h9.2⟩
      · cases h
    · split at h
      · obtain ⟨x, y, r, rfl, h1⟩ := am_p2_e h
        exact hK _ _ _ _ _ l1 (fr_cons (fr_int _ _) (fr_tl (fr_tl s1))) g1 (am_ite_e h1).2
      · split at h
        · obtain ⟨x, y, r, rfl, h1⟩ := am_p2_e h
          exact hK _ _ _ _ _ l1 (fr_cons (fr_int _ _) (fr_tl (fr_tl s1))) g1 (am_ite_e h1).2
        · obtain ⟨v1, G1, hc, h3⟩ := am_ret_e (am_ite_e h).2
          have e := hC _ _ _ _ _ ((fun x hx => s1 x (List.mem_of_mem_take (List.mem_reverse.mp hx))) : fr_s A (st.take b).reverse) g1 hc
          have h9 := hK _ _ _ _ _ l1 (fr_app (fr_ovl e.1) ((fun x hx => s1 x (List.mem_of_mem_drop hx)) : fr_s A (st.drop b))) e.2.1 h3
          exact ⟨h9.1, e.2.trans h9.2⟩
  | invokespecial ix =>
    dsimp only at h
    split at h
    · obtain ⟨x, r, rfl, h1⟩ := am_a1_e h
      exact hK _ _ _ _ _ l1 (fr_tl s1) g1 (am_ite_e h1).2
    · have h1 := (am_ite_e h).2
      split at h1
      · next x As eA =>
        obtain ⟨v1, G1, hc, h3⟩ := am_ret_e h1
        have e := hC _ _ _ _ _ (eA ▸ ((fun x hx => s1 x (List.mem_of_mem_take (List.mem_reverse.mp hx))) : fr_s A (st.take b).reverse)) g1 hc
        have h9 := hK _ _ _ _ _ l1 (fr_app (fr_ovl e.1) ((fun x hx => s1 x (List.mem_of_mem_drop hx)) : fr_s A (st.drop b))) e.2.1 h3
        exact ⟨h9.1, e.2.trans h9.2⟩
      · cases h1
  | ireturn =>
    dsimp only at h
    split at h
    · have h1 := (am_nite_e h).2
      cases h1
      exact ⟨fun x hx => by cases hx; exact fr_int _ _, fr_E.refl g1⟩
    · cases h
  | lreturn =>
    dsimp only at h
    split at h
    · cases h
      exact ⟨fun x hx => by cases hx; exact fr_long _ _, fr_E.refl g1⟩
    · cases h
  | return_ =>
    dsimp only at h
    split at h
    · cases h
      exact ⟨(fun x hx => nomatch hx), fr_E.refl g1⟩
    · cases h
  | _ => cases h
theorem fr_ops {A : Nat → Prop} {N0 : Nat} (hA : ∀ n, N0 ≤ n → A n) {C : am_C} {J : am_J} (hC : fr_C A N0 C) (hJ : fr_J A N0 J) : ∀ ops, fr_J A N0 (am_ops C J ops) := by
  intro ops
  induction ops with
  | nil => exact hJ
  | cons o r ih =>
    intro pc ls st G v G' l1 s1 g1 h
    unfold am_ops at h
    exact fr_op hA hC hJ (fun ls st G v G' a b c h => ih _ _ _ _ _ _ a b c h) l1 s1 g1 h
theorem fr_fwd {A : Nat → Prop} {N0 : Nat} (hA : ∀ n, N0 ≤ n → A n) {C : am_C} {J : am_J} (hC : fr_C A N0 C) (hJ : fr_J A N0 J) : ∀ bs, fr_J A N0 (am_fwd C J bs) := by
  intro bs
  induction bs with
  | nil => exact hJ
  | cons q r ih =>
    obtain ⟨p0, ops⟩ := q
    intro pc ls st G v G' l1 s1 g1 h
    unfold am_fwd at h
    split at h
    · exact fr_ops hA hC ih ops _ _ _ _ _ _ l1 s1 g1 h
    · exact ih _ _ _ _ _ _ l1 s1 g1 h
theorem fr_run {A : Nat → Prop} {N0 : Nat} (hA : ∀ n, N0 ≤ n → A n) {C : am_C} (hC : fr_C A N0 C) (bs : am_B) : ∀ n, fr_J A N0 (am_run C bs n) := by
  intro n
  induction n with
  | zero => intro pc ls st G v G' _ _ _ h; cases h
  | succ n ih => intro pc ls st G v G' l1 s1 g1 h; exact fr_fwd hA hC ih bs _ _ _ _ _ _ l1 s1 g1 h
theorem fr_args {A : Nat → Prop} (vs : List Value) (h : fr_s A vs) : ∀ i, fr_l A (lv_args i vs) := by
  induction vs with
  | nil => intro i q hq; cases hq
  | cons v r ih =>
    intro i q hq
    rcases List.mem_cons.mp hq with rfl | h1
    · exact fr_hd h
    · exact ih (fr_tl h) _ q h1
/-- THE FRAME: a call writes only cells of a closed set that holds its arguments -/
theorem fr_call {A : Nat → Prop} {N0 : Nat} (hA : ∀ n, N0 ≤ n → A n) (P : Nat → Nat × am_B) : ∀ d, fr_C A N0 (am_call P d) := by
  intro d
  induction d with
  | zero => intro a as G v G' _ _ h; cases h
  | succ d ih =>
    intro a as G v G' s1 g1 h
    exact fr_run hA ih _ _ _ _ _ _ _ _ (fr_args as s1 0) (fun x hx => by cases hx) g1 (am_ite_e h).2
